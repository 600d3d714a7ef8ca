/** The Terms SAVE and RESTORE, sentence by sentence. */
public final class TermsSavesEdgesTest {
    static Sentences sentences() {
        return new Sentences("Terms")
            .says("A SAVE, 3 of them at a time:", TermsSavesEdgesTest::threeAtATime)
            .says("to RESTORE it: all objects from it on are gone (their numbers come again);", TermsSavesEdgesTest::gone)
            .says("of those that stay, what ARRAYS hold,", TermsSavesEdgesTest::arrays)
            .says("ENTRIES,", TermsSavesEdgesTest::entries)
            .says("capacities,", TermsSavesEdgesTest::capacities)
            .says("GROWS,", TermsSavesEdgesTest::grows)
            .says("ACCESS,", TermsSavesEdgesTest::access)
            .says("EXECUTABLE,", TermsSavesEdgesTest::executable)
            .says("and STORAGE are as just before it was made (it takes none any more).", TermsSavesEdgesTest::storage)
            .says("The bytes of STRINGS stay as they are.", TermsSavesEdgesTest::bytes);
    }

    public static void main(String[] args) {
        sentences().run();
    }

    private static void threeAtATime(Trial t) {
        t.is("make(SAVE, 0)", 1);
        t.is("make(MARK, 0)", 2);
        t.is("make(SAVE, 0)", 3);
        t.is("make(SAVE, 0)", 4);
        t.refused("make(SAVE, 0)", -4);
        t.is("make(MARK, 0)", 5);
        // one gone, one more; two gone, two more; all gone, three more
        for (int save = 4; save >= 1; save--) {
            if (save != 2) {
                t.is("restore(" + save + ")", save);
                int room = save == 1 ? 3 : 5 - save;
                for (int k = 0; k < room; k++) {
                    t.is("make(SAVE, 0)", save + k);
                }
                t.refused("make(SAVE, 0)", -4);
            }
        }
        // many, one after the other
        t.after();
        for (int k = 0; k < 100; k++) {
            t.is("make(SAVE, 0)", 1);
            t.is("restore(1)", 1);
        }
        // three as the last three of 100 objects
        t.after("96 * make(NULL, 0); 3 * make(SAVE, 0)");
        t.refused("make(SAVE, 0)", -4);
        t.is("restore(97)", 97);
        t.is("make(SAVE, 0)", 97);
    }

    private static void gone(Trial t) {
        t.after("make(MARK, 0); make(SAVE, 0); make(NUMBER, 5); make(STRING, 3)");
        t.is("restore(2)", 2);
        t.is("kind(1)", Kinds.MARK);
        t.is("kind(2)", -1);
        t.is("kind(3)", -1);
        t.is("kind(4)", -1);
        t.is("make(NAME, 7)", 2);
        t.is("make(FILE, 8)", 3);
        t.is("make(ARRAY, 1)", 4);
        t.is("told(2, ITS_NUMBER)", 7);
        t.is("told(3, ITS_NUMBER)", 8);
        t.is("length(4)", 1);
        // the SAVE alone, and inner SAVES with it
        t.after("make(SAVE, 0); restore(1)");
        t.is("kind(0)", Kinds.NULL);
        t.is("kind(1)", -1);
        t.after("3 * make(SAVE, 0); restore(2)");
        t.is("kind(1)", Kinds.SAVE);
        t.is("kind(2)", -1);
        t.is("kind(3)", -1);
        t.refused("restore(3)", -1);
        // views and dictionaries of stores that stay
        t.after("make(STRING, 2); make(DICTIONARY, 1); make(SAVE, 0); part(1, 0, 1); part(2, 0, 0); restore(3)");
        t.is("kind(4)", -1);
        t.is("kind(5)", -1);
        t.is("make(MARK, 0)", 3);
        t.is("make(STRING, 1)", 4);
        t.is("put(4, 0, 9)", 1);
        t.is("get(1, 0)", 0);
        t.is("make(DICTIONARY, 3)", 5);
        t.is("same(2, 5)", 0);
        t.is("told(2, CAPACITY)", 1);
        t.is("told(5, CAPACITY)", 3);
        t.is("entry(5, 3, 3)", 1);
        t.is("look(2, 3)", -5);
        t.is("attribute(5, ACCESS, 1)", 1);
        t.is("told(2, ACCESS)", 3);
        // PACKED ones that stay hold what stays
        t.after("make(MARK, 0); make(PACKED, 2); make(SAVE, 0); make(PACKED, 4); restore(3)");
        t.is("get(2, 0)", 0);
        t.is("get(2, 1)", 1);
        t.is("make(PACKED, 3)", 3);
        t.is("get(3, 0)", 0);
        t.is("get(3, 2)", 2);
    }

    private static void arrays(Trial t) {
        t.after("make(ARRAY, 32); part(1, 1, 31); put(1, 0, 1); put(1, 31, 2); make(SAVE, 0); put(1, 0, 3); put(2, 30, 0)",
            "put(1, 1, 3); put(2, 29, 2)");
        t.is("restore(3)", 3);
        t.is("get(1, 0)", 1);
        t.is("get(1, 1)", 0);
        t.is("get(1, 30)", 0);
        t.is("get(1, 31)", 2);
        t.is("get(2, 30)", 2);
        // put by a view that is gone, of an object that is gone
        t.after("make(ARRAY, 2); make(SAVE, 0); part(1, 1, 1); make(MARK, 0); put(3, 0, 4); restore(2)");
        t.is("get(1, 0)", 0);
        t.is("get(1, 1)", 0);
        // each SAVE its own
        for (int save = 2; save <= 4; save++) {
            t.after("make(ARRAY, 1); make(SAVE, 0); put(1, 0, 1); make(SAVE, 0); put(1, 0, 2); make(SAVE, 0); put(1, 0, 3)");
            t.is("restore(" + save + ")", save);
            t.is("get(1, 0)", save - 2);
        }
        // one after the other, the inner first
        t.after("make(ARRAY, 1); make(SAVE, 0); put(1, 0, 1); make(SAVE, 0); put(1, 0, 2); make(SAVE, 0); put(1, 0, 3)");
        for (int save = 4; save >= 2; save--) {
            t.is("restore(" + save + ")", save);
            t.is("get(1, 0)", save - 2);
        }
        // an ARRAY made between two SAVES stays for the second
        t.after("make(SAVE, 0); make(ARRAY, 1); put(2, 0, 1); make(SAVE, 0); put(2, 0, 3); restore(3)");
        t.is("get(2, 0)", 1);
        // just before it was made, not when an earlier one was restored
        t.after("make(ARRAY, 1); make(SAVE, 0); restore(2); put(1, 0, 1); make(SAVE, 0); put(1, 0, 0); restore(2)");
        t.is("get(1, 0)", 1);
    }

    private static void entries(Trial t) {
        t.after("make(DICTIONARY, 3); make(NUMBER, 1); make(NUMBER, 2); entry(1, 2, 2); part(1, 0, 0); make(SAVE, 0)",
            "entry(1, 2, 3); entry(4, 3, 3); entry(1, 5, 5)");
        t.refused("entry(1, 1, 1)", -4);
        t.is("restore(5)", 5);
        t.is("length(1)", 1);
        t.is("length(4)", 1);
        t.is("look(1, 2)", 2);
        t.is("look(4, 3)", -5);
        t.is("entry(1, 1, 1)", 1);
        t.is("entry(1, 3, 1)", 1);
        t.is("make(MARK, 0)", 5);
        t.refused("entry(1, 5, 5)", -4);
        // without ENTRIES, and full
        t.after("make(DICTIONARY, 1); make(SAVE, 0); entry(1, 1, 1); restore(2)");
        t.is("length(1)", 0);
        t.is("look(1, 1)", -5);
        t.after("make(DICTIONARY, 1); entry(1, 1, 1); make(SAVE, 0); entry(1, 1, 2); restore(2)");
        t.is("length(1)", 1);
        t.is("look(1, 1)", 1);
        t.is("make(MARK, 0)", 2);
        t.refused("entry(1, 2, 2)", -4);
        // a KEY of a number that comes again is not what it was
        t.after("make(DICTIONARY, 1); make(SAVE, 0); make(MARK, 0); entry(1, 3, 3); restore(2); make(FILE, 0); make(MARK, 0)");
        t.is("look(1, 3)", -5);
        t.is("entry(1, 3, 2)", 1);
    }

    private static void capacities(Trial t) {
        t.after("make(DICTIONARY, 0); attribute(1, GROWS, 1); make(SAVE, 0); entry(1, 1, 1); entry(1, 2, 2)");
        t.is("told(1, CAPACITY)", 3);
        t.is("restore(2)", 2);
        t.is("told(1, CAPACITY)", 0);
        t.is("attribute(1, GROWS, 0)", 1);
        t.refused("entry(1, 1, 1)", -4);
        t.is("attribute(1, GROWS, 1)", 1);
        t.is("entry(1, 1, 1)", 1);
        t.is("told(1, CAPACITY)", 1);
        // one that has grown before
        t.after("make(DICTIONARY, 1); attribute(1, GROWS, 1); make(MARK, 0); entry(1, 1, 1); entry(1, 2, 2); make(SAVE, 0)",
            "entry(1, 3, 3); make(NUMBER, 1); entry(1, 4, 4)");
        t.is("told(1, CAPACITY)", 7);
        t.is("restore(3)", 3);
        t.is("told(1, CAPACITY)", 3);
        t.is("length(1)", 2);
        t.is("look(1, 2)", 2);
    }

    private static void grows(Trial t) {
        for (int before = 0; before <= 1; before++) {
            int after = 1 - before;
            t.after("make(DICTIONARY, 0); attribute(1, GROWS, " + before + "); part(1, 0, 0); make(SAVE, 0)");
            t.is("attribute(2, GROWS, " + after + ")", 1);
            t.is("restore(3)", 3);
            t.is("told(1, GROWS)", before);
            t.is("told(2, GROWS)", before);
            if (before == 1) {
                t.is("entry(1, 1, 1)", 1);
            } else {
                t.refused("entry(1, 1, 1)", -4);
            }
        }
        // set by an object that is gone
        t.after("make(DICTIONARY, 0); make(SAVE, 0); part(1, 0, 0); attribute(3, GROWS, 1); restore(2)");
        t.is("told(1, GROWS)", 0);
    }

    private static void access(Trial t) {
        for (int before = 3; before >= 1; before--) {
            for (int kind = Kinds.STRING; kind <= Kinds.FILE; kind++) {
                boolean has = kind != Kinds.MARK && (kind != Kinds.PACKED || before < 3);
                if (has) {
                    t.after("make(" + kind + ", 1); attribute(1, ACCESS, " + before + "); make(SAVE, 0)");
                    t.is("attribute(1, ACCESS, " + (before - 1) + ")", 1);
                    t.is("attribute(1, ACCESS, 0)", 1);
                    t.is("restore(2)", 2);
                    t.is("told(1, ACCESS)", before);
                    t.refused("attribute(1, ACCESS, " + (before + 1) + ")", before == 3 ? -2 : -3);
                }
            }
        }
        // what it allows is allowed again
        t.after("make(STRING, 1); make(DICTIONARY, 1); make(SAVE, 0); attribute(1, ACCESS, 0); attribute(2, ACCESS, 0)");
        t.is("restore(3)", 3);
        t.is("put(1, 0, 1)", 1);
        t.is("entry(2, 2, 2)", 1);
        // lowered by an object of the dictionary that is gone
        t.after("make(DICTIONARY, 1); make(SAVE, 0); part(1, 0, 0); attribute(3, ACCESS, 1); restore(2)");
        t.is("told(1, ACCESS)", 3);
    }

    private static void executable(Trial t) {
        for (int before = 0; before <= 1; before++) {
            t.after(Kinds.ONE_OF_EACH);
            for (int kind = Kinds.NULL; kind <= Kinds.SAVE; kind++) {
                t.is("attribute(" + kind + ", EXECUTABLE, " + before + ")", 1);
            }
            t.is("make(SAVE, 0)", 12);
            for (int kind = Kinds.NULL; kind <= Kinds.SAVE; kind++) {
                t.is("attribute(" + kind + ", EXECUTABLE, " + (1 - before) + ")", 1);
            }
            t.is("restore(12)", 12);
            for (int kind = Kinds.NULL; kind <= Kinds.SAVE; kind++) {
                t.is("told(" + kind + ", EXECUTABLE)", before);
            }
        }
    }

    private static void storage(Trial t) {
        t.is("make(SAVE, 0)", 1);
        t.is("used()", 16);
        t.is("restore(1)", 1);
        t.is("used()", 8);
        t.after("make(DICTIONARY, 0); attribute(1, GROWS, 1); make(SAVE, 0); make(STRING, 64); make(ARRAY, 32)",
            "make(PACKED, 5); make(DICTIONARY, 32); part(3, 0, 1); entry(1, 1, 1)");
        t.is("used()", 8 * 8 + 64 + 256 + 20 + 512 + 16);
        t.is("restore(2)", 2);
        t.is("used()", 16);
        t.is("make(STRING, 64)", 2);
        t.is("used()", 16 + 8 + 64);
        // an outer SAVE takes 8 as long as it is there
        t.after("make(SAVE, 0); make(SAVE, 0); make(SAVE, 0)");
        t.is("used()", 32);
        t.is("restore(3)", 3);
        t.is("used()", 24);
        t.is("restore(1)", 1);
        t.is("used()", 8);
    }

    private static void bytes(Trial t) {
        t.after(Run.text(1, "abc"), "part(1, 1, 2); make(SAVE, 0); put(1, 0, 120); put(2, 1, 121); part(2, 0, 1); put(4, 0, 122)");
        t.is("restore(3)", 3);
        t.is("get(1, 0)", 'x');
        t.is("get(1, 1)", 'z');
        t.is("get(1, 2)", 'y');
        t.is("get(2, 0)", 'z');
        t.is("get(2, 1)", 'y');
        // with three SAVES, the outermost restored
        t.after("make(STRING, 64); make(SAVE, 0); put(1, 0, 1); make(SAVE, 0); put(1, 63, 2); make(SAVE, 0); put(1, 1, 3)");
        t.is("restore(2)", 2);
        t.is("get(1, 0)", 1);
        t.is("get(1, 1)", 3);
        t.is("get(1, 63)", 2);
        // a STRING made later lies beside it, not in it
        t.is("make(STRING, 64)", 2);
        t.is("put(2, 0, 9)", 1);
        t.is("get(1, 0)", 1);
        t.is("get(1, 63)", 2);
        // so what it is the same as stays too
        t.after(Run.text(1, "7"), "make(NAME, 7); make(SAVE, 0); put(1, 0, 56); restore(3)");
        t.is("same(1, 2)", 0);
    }
}
