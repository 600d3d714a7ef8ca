/** Promise 11, sentence by sentence; which objects can be KEYS is tried in TermsEntriesEdgesTest. */
public final class EntryEdgesTest {
    static Sentences sentences() {
        return new Sentences("Promise 11: entry")
            .says("An ENTRY, in place of one with the same KEY: 1.", EntryEdgesTest::inPlace)
            .says("-1 one of the three is not there,", EntryEdgesTest::notThere)
            .says("-3 the first is no DICTIONARY, its ACCESS is not 3, or the second can be no KEY,", EntryEdgesTest::notSo)
            .says("-4 it is full and does not grow, or has 32.", EntryEdgesTest::noRoom);
    }

    public static void main(String[] args) {
        sentences().run();
    }

    private static void inPlace(Trial t) {
        t.after("make(DICTIONARY, 2); make(NUMBER, 5); make(NUMBER, 6); make(NUMBER, 5)");
        t.is("entry(1, 2, 2)", 1);
        t.is("look(1, 2)", 2);
        t.is("entry(1, 4, 3)", 1);
        t.is("length(1)", 1);
        t.is("look(1, 2)", 3);
        t.is("look(1, 4)", 3);
        t.is("entry(1, 3, 0)", 1);
        t.is("length(1)", 2);
        // it is full now; in place there is room, and it does not grow for it
        t.is("attribute(1, GROWS, 1)", 1);
        t.is("entry(1, 4, 4)", 1);
        t.is("entry(1, 3, 1)", 1);
        t.is("told(1, CAPACITY)", 2);
        t.is("length(1)", 2);
        t.is("look(1, 2)", 4);
        t.is("look(1, 3)", 1);
        t.is("used()", 5 * 8 + 2 * 16);
        // the first and the last of 32
        t.after("make(DICTIONARY, 32)");
        for (int key = 2; key <= 33; key++) {
            t.is("make(FILE, " + key + ")", key);
            t.is("entry(1, " + key + ", " + key + ")", 1);
        }
        t.is("entry(1, 2, 33)", 1);
        t.is("entry(1, 33, 2)", 1);
        t.is("length(1)", 32);
        t.is("look(1, 2)", 33);
        t.is("look(1, 3)", 3);
        t.is("look(1, 32)", 32);
        t.is("look(1, 33)", 2);
    }

    private static void notThere(Trial t) {
        t.after("make(DICTIONARY, 1); make(MARK, 0)");
        String[] objects = {"-1", "3", "100", "MIN", "MAX"};
        for (String object : objects) {
            t.refused("entry(" + object + ", 2, 2)", -1);
            t.refused("entry(1, " + object + ", 2)", -1);
            t.refused("entry(1, 2, " + object + ")", -1);
            // no DICTIONARY, no KEY
            t.refused("entry(2, " + object + ", 2)", -1);
            t.refused("entry(2, 2, " + object + ")", -1);
            t.refused("entry(1, 0, " + object + ")", -1);
            t.refused("entry(" + object + ", 0, 2)", -1);
            t.refused("entry(" + object + ", " + object + ", " + object + ")", -1);
        }
        // ACCESS too low, full
        t.is("entry(1, 1, 1)", 1);
        t.refused("entry(1, 2, 3)", -1);
        t.refused("entry(1, 3, 2)", -1);
        t.refused("entry(1, 1, 3)", -1);
        t.is("attribute(1, ACCESS, 2)", 1);
        t.refused("entry(1, 2, 3)", -1);
        t.refused("entry(1, 3, 2)", -1);
        // objects that are gone
        t.after("make(DICTIONARY, 1); make(SAVE, 0); make(MARK, 0); restore(2)");
        t.refused("entry(1, 3, 1)", -1);
        t.refused("entry(1, 1, 3)", -1);
        t.refused("entry(1, 2, 1)", -1);
        t.is("entry(1, 1, 0)", 1);
        t.is("look(1, 1)", 0);
    }

    private static void notSo(Trial t) {
        t.after(Kinds.ONE_OF_EACH);
        for (int kind = Kinds.NULL; kind <= Kinds.SAVE; kind++) {
            if (kind != Kinds.DICTIONARY) {
                t.refused("entry(" + kind + ", 1, 1)", -3);
                t.refused("entry(" + kind + ", 0, 1)", -3);
            }
        }
        t.is("entry(7, 1, 1)", 1);
        for (int access = 2; access >= 0; access--) {
            t.after("make(DICTIONARY, 2); entry(1, 1, 1); make(MARK, 0); attribute(1, ACCESS, 3)");
            t.is("entry(1, 1, 0)", 1);
            t.is("attribute(1, ACCESS, " + access + ")", 1);
            t.refused("entry(1, 1, 1)", -3);
            t.refused("entry(1, 2, 1)", -3);
            t.refused("entry(1, 0, 1)", -3);
        }
        // lowered by another object of the dictionary
        t.after("make(DICTIONARY, 1); part(1, 0, 0); attribute(2, ACCESS, 2)");
        t.refused("entry(1, 1, 1)", -3);
        // no KEY: a NULL, a STRING without a NAME, a STRING that cannot be read
        t.after("make(DICTIONARY, 1)", Run.text(2, "1000"), Run.text(3, "7"), "make(NULL, 0)");
        t.refused("entry(1, 0, 1)", -3);
        t.refused("entry(1, 4, 1)", -3);
        t.refused("entry(1, 2, 1)", -3);
        t.is("attribute(3, ACCESS, 1)", 1);
        t.refused("entry(1, 3, 1)", -3);
        // before no room
        t.is("entry(1, 1, 1)", 1);
        t.refused("entry(1, 0, 1)", -3);
        t.refused("entry(1, 2, 1)", -3);
        t.is("attribute(1, ACCESS, 2)", 1);
        t.is("make(MARK, 0)", 5);
        t.refused("entry(1, 5, 1)", -3);
    }

    private static void noRoom(Trial t) {
        t.after("make(DICTIONARY, 0)");
        t.refused("entry(1, 1, 1)", -4);
        t.after("make(DICTIONARY, 2); make(NUMBER, 1); make(NUMBER, 2); make(NUMBER, 3)");
        t.is("entry(1, 2, 2)", 1);
        t.is("entry(1, 3, 3)", 1);
        t.refused("entry(1, 4, 4)", -4);
        t.is("attribute(1, GROWS, 1)", 1);
        t.is("attribute(1, GROWS, 0)", 1);
        t.refused("entry(1, 4, 4)", -4);
        t.is("attribute(1, GROWS, 1)", 1);
        t.is("entry(1, 4, 4)", 1);
        t.is("told(1, CAPACITY)", 5);
        int[] capacities = {0, 31, 32};
        for (int capacity : capacities) {
            growingTo32(t, capacity);
        }
    }

    private static void growingTo32(Trial t, int capacity) {
        t.after("make(DICTIONARY, " + capacity + "); attribute(1, GROWS, 1)");
        for (int key = 2; key <= 33; key++) {
            t.is("make(NUMBER, " + key + ")", key);
            t.is("entry(1, " + key + ", " + key + ")", 1);
        }
        t.is("make(NUMBER, 34)", 34);
        t.refused("entry(1, 34, 34)", -4);
        t.is("length(1)", 32);
        t.is("told(1, CAPACITY)", 32);
        t.is("entry(1, 33, 1)", 1);
    }
}
