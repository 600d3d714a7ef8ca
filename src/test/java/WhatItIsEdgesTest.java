/** The section before the Terms: what an object is good for. */
public final class WhatItIsEdgesTest {
    static Sentences sentences() {
        return new Sentences("What it is")
            .says("An object is used for at most 512 calls after it has been made; what later calls answer is free.",
                WhatItIsEdgesTest::fiveHundredTwelveCalls);
    }

    public static void main(String[] args) {
        sentences().run();
    }

    /** The 511th and the 512th call answer as the first would. */
    private static void fiveHundredTwelveCalls(Trial t) {
        t.after("510 * used()");
        t.is("make(ARRAY, 32)", 1);
        t.is("used()", 8 + 8 + 256);
        t.after("510 * kind(-1)");
        t.is("make(SAVE, 0)", 1);
        t.is("restore(1)", 1);
        t.after("make(DICTIONARY, 32); 509 * entry(1, 1, 1)");
        t.is("look(1, 1)", 1);
        t.is("length(1)", 1);
        t.after("make(STRING, 64); 509 * put(1, 63, 255)");
        t.is("get(1, 63)", 255);
        t.is("get(1, 64)", Call.THROWN);
        // the most that there can be: all objects of the largest KIND, with SAVES, over and over
        t.after(fullOfSaves());
        t.is("restore(97)", 97);
        t.is("used()", 97 * 8 + 96 * 32 * 16);
        // all the objects again and again
        t.after(fiveTimesAll());
        t.is("restore(1)", 1);
        t.is("kind(1)", -1);
    }

    private static String[] fullOfSaves() {
        return new String[] {"96 * make(DICTIONARY, 32); 3 * make(SAVE, 0)", times(205, "restore(99); make(SAVE, 0)"),
            "entry(1, 1, 1)"};
    }

    private static String[] fiveTimesAll() {
        return new String[] {times(5, "make(SAVE, 0); 98 * make(STRING, 64); restore(1)"), "make(SAVE, 0)", "9 * make(ARRAY, 32)"};
    }

    private static String times(int n, String calls) {
        return (calls + "; ").repeat(n - 1) + calls;
    }
}
