/** The Terms ENTRIES and KEYS and GROWS, sentence by sentence. */
public final class TermsEntriesEdgesTest {
    static Sentences sentences() {
        return new Sentences("Terms")
            .says("A DICTIONARY has ENTRIES, each a KEY (an object) and an object;", TermsEntriesEdgesTest::entries)
            .says("no two KEYS are the same.", TermsEntriesEdgesTest::noTwoTheSame)
            .says("No KEY is NULL.", TermsEntriesEdgesTest::noNull)
            .says("A STRING as a KEY stands for the NAME that is the same;", TermsEntriesEdgesTest::standsForTheName)
            .says("one that there is none for can be no KEY.", TermsEntriesEdgesTest::noName)
            .says("GROWS: when it is full, its capacity becomes twice as much and 1, but 32 at most.",
                TermsEntriesEdgesTest::grows);
    }

    public static void main(String[] args) {
        sentences().run();
    }

    private static void entries(Trial t) {
        // each KIND but NULL as a KEY, each KIND as what it leads to, the dictionary itself as both
        t.after(Kinds.ONE_OF_EACH, "put(4, 0, 50); make(DICTIONARY, 11)");
        for (int key = Kinds.NUMBER; key <= Kinds.SAVE; key++) {
            t.is("entry(12, " + key + ", " + (key - 1) + ")", 1);
            t.is("length(12)", key);
        }
        for (int key = Kinds.NUMBER; key <= Kinds.SAVE; key++) {
            t.is("look(12, " + key + ")", key - 1);
        }
        t.refused("entry(12, 12, 12)", -4);
        t.after("make(DICTIONARY, 1)");
        t.is("length(1)", 0);
        t.is("entry(1, 1, 1)", 1);
        t.is("look(1, 1)", 1);
        // of the dictionary, not of the object
        t.after("make(DICTIONARY, 1); part(1, 0, 0); entry(2, 1, 2)");
        t.is("length(1)", 1);
        t.is("look(1, 2)", 2);
        t.refused("entry(1, 0, 1)", -3);
    }

    /** Objects 1 and 2, both made by these calls, are one KEY (or two) of a dictionary. */
    private static void keys(Trial t, int keys, String... calls) {
        t.after(calls);
        t.is("make(DICTIONARY, 2)", 3);
        t.is("entry(3, 1, 1)", 1);
        t.is("look(3, 2)", keys == 1 ? 1 : -5);
        t.is("entry(3, 2, 2)", 1);
        t.is("length(3)", keys);
        t.is("look(3, 1)", keys == 1 ? 2 : 1);
        t.is("look(3, 2)", 2);
    }

    private static void noTwoTheSame(Trial t) {
        keys(t, 1, "make(NUMBER, -1); make(NUMBER, -1)");
        keys(t, 2, "make(NUMBER, MIN); make(NUMBER, MAX)");
        keys(t, 1, "make(BOOLEAN, 0); make(BOOLEAN, 0)");
        keys(t, 2, "make(BOOLEAN, 0); make(BOOLEAN, 1)");
        keys(t, 2, "make(BOOLEAN, 1); make(NUMBER, 1)");
        keys(t, 1, "make(NAME, 0); make(NAME, 0)");
        keys(t, 2, "make(NAME, 0); make(NAME, 999)");
        keys(t, 2, "make(NAME, 5); make(NUMBER, 5)");
        keys(t, 1, "make(NAME, 0)", Run.text(2, "0"));
        keys(t, 1, Run.text(1, "999"), "make(NAME, 999)");
        keys(t, 1, Run.text(1, "10"), Run.text(2, "10"));
        keys(t, 2, Run.text(1, "10"), Run.text(2, "100"));
        keys(t, 1, "make(ARRAY, 1); part(1, 0, 1)");
        keys(t, 2, "make(ARRAY, 2); part(1, 0, 1)");
        keys(t, 2, "make(ARRAY, 1); make(ARRAY, 1)");
        keys(t, 2, "make(ARRAY, 1); make(PACKED, 1)");
        keys(t, 1, "make(PACKED, 1); part(1, 0, 1)");
        keys(t, 2, "make(PACKED, 1); make(PACKED, 1)");
        keys(t, 1, "make(PACKED, 0); make(ARRAY, 0)");
        keys(t, 1, "make(ARRAY, 0); part(1, 0, 0)");
        keys(t, 2, "make(ARRAY, 1); part(1, 1, 0)");
        keys(t, 1, "make(DICTIONARY, 0); part(1, 0, 0)");
        keys(t, 2, "make(DICTIONARY, 0); make(DICTIONARY, 0)");
        keys(t, 1, "make(MARK, 1); make(MARK, 2)");
        keys(t, 1, "make(FILE, MAX); make(FILE, MAX)");
        keys(t, 2, "make(FILE, 3); make(OPERATOR, 3)");
        keys(t, 1, "make(OPERATOR, 3); make(OPERATOR, 3)");
        keys(t, 2, "make(SAVE, 0); make(SAVE, 0)");
    }

    private static void noNull(Trial t) {
        t.after("make(DICTIONARY, 1); make(NULL, 5); make(MARK, 0); attribute(2, EXECUTABLE, 1)");
        t.refused("entry(1, 0, 1)", -3);
        t.refused("entry(1, 2, 1)", -3);
        t.refused("look(1, 0)", -3);
        t.refused("look(1, 2)", -3);
        t.is("entry(1, 3, 0)", 1);
        t.is("look(1, 3)", 0);
    }

    private static void standsForTheName(Trial t) {
        // whether the NAME is there or not; the KEY stays when the bytes change
        t.after("make(DICTIONARY, 2)", Run.text(2, "42"), "entry(1, 2, 1); put(2, 0, 53); make(NAME, 42); make(NAME, 52)");
        t.is("look(1, 3)", 1);
        t.refused("look(1, 2)", -5);
        t.refused("look(1, 4)", -5);
        t.is("entry(1, 2, 2)", 1);
        t.is("length(1)", 2);
        t.is("look(1, 4)", 2);
        t.is("look(1, 3)", 1);
        // when it is no NAME any more, or cannot be read
        t.is("put(2, 0, 65)", 1);
        t.refused("look(1, 2)", -3);
        t.is("look(1, 4)", 2);
        t.is("put(2, 0, 52)", 1);
        t.is("look(1, 2)", 1);
        t.is("attribute(2, ACCESS, 0)", 1);
        t.refused("look(1, 2)", -3);
        t.is("look(1, 3)", 1);
        // all of 0, 9, 10, 99, 100, 999
        int[] names = {0, 9, 10, 99, 100, 999};
        for (int name : names) {
            t.after("make(DICTIONARY, 1)", Run.text(2, Integer.toString(name)), "make(NAME, " + name + ")");
            t.is("entry(1, 2, 2)", 1);
            t.is("look(1, 3)", 2);
            t.is("entry(1, 3, 3)", 1);
            t.is("look(1, 2)", 3);
            t.is("length(1)", 1);
        }
        // the STRING is gone, the KEY was made before it
        t.after("make(DICTIONARY, 1); make(NAME, 7); entry(1, 2, 2); make(SAVE, 0)", Run.text(4, "7"), "entry(1, 4, 4)",
            "restore(3)");
        t.is("look(1, 2)", 2);
    }

    private static void noName(Trial t) {
        String[] texts = {"", "00", "01", "007", "000", "1000", "0999", "9999999999", "a", "4a", "a4", "-1", "+1", " 1", "1 ",
            "/", ":", "1/", "1:", "12/", "12:", "1\0", "\0", "\u00b1"};
        for (String text : texts) {
            t.after("make(DICTIONARY, 1)", Run.text(2, text));
            t.refused("entry(1, 2, 1)", -3);
            t.refused("look(1, 2)", -3);
        }
        // one that cannot be read is the same as nothing
        for (int access = 1; access >= 0; access--) {
            t.after("make(DICTIONARY, 1)", Run.text(2, "7"), "attribute(2, ACCESS, 2)");
            t.is("entry(1, 2, 1)", 1);
            t.is("attribute(2, ACCESS, " + access + ")", 1);
            t.refused("entry(1, 2, 1)", -3);
            t.refused("look(1, 2)", -3);
        }
        // it may still be what an ENTRY leads to
        t.after("make(DICTIONARY, 1); make(STRING, 0)");
        t.is("entry(1, 1, 2)", 1);
        t.is("look(1, 1)", 2);
    }

    private static void grows(Trial t) {
        int[] from = {0, 1, 2, 7, 14, 15, 16, 30, 31};
        int[] to = {1, 3, 5, 15, 29, 31, 32, 32, 32};
        for (int k = 0; k < from.length; k++) {
            t.after("make(DICTIONARY, " + from[k] + "); attribute(1, GROWS, 1)");
            fill(t, 2, from[k]);
            t.is("told(1, CAPACITY)", from[k]);
            t.is("used()", (2 + from[k]) * 8 + from[k] * 16);
            fill(t, 2 + from[k], 1);
            t.is("told(1, CAPACITY)", to[k]);
            t.is("length(1)", from[k] + 1);
            t.is("used()", (3 + from[k]) * 8 + to[k] * 16);
            t.is("look(1, " + (2 + from[k]) + ")", 1);
        }
        // from none to all, step by step
        t.after("make(DICTIONARY, 0); attribute(1, GROWS, 1)");
        int[] steps = {0, 1, 3, 7, 15, 31, 32};
        for (int k = 1; k < steps.length; k++) {
            fill(t, 2 + steps[k - 1], steps[k] - steps[k - 1]);
            t.is("told(1, CAPACITY)", steps[k]);
        }
        t.is("make(NUMBER, 99)", 34);
        t.refused("entry(1, 34, 1)", -4);
        t.is("told(1, CAPACITY)", 32);
        // not by a refusal, and not in place of another
        t.after("make(DICTIONARY, 1); attribute(1, GROWS, 1); entry(1, 1, 1)");
        t.refused("entry(1, 0, 1)", -3);
        t.refused("entry(1, 2, 1)", -1);
        t.is("entry(1, 1, 0)", 1);
        t.is("told(1, CAPACITY)", 1);
        // one that does not grow
        t.after("make(DICTIONARY, 1); entry(1, 1, 1); make(MARK, 0)");
        t.refused("entry(1, 2, 1)", -4);
        t.is("told(1, CAPACITY)", 1);
    }

    /** So many NUMBERS as KEYS of object 1, the first of which is the object with this number. */
    private static void fill(Trial t, int first, int n) {
        for (int key = first; key < first + n; key++) {
            t.is("make(NUMBER, " + key + ")", key);
            t.is("entry(1, " + key + ", 1)", 1);
        }
    }
}
