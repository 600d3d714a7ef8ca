/** The Term REFUSALS, sentence by sentence; RefusalsTest tries them by all calls of a grid. */
public final class TermsRefusalsEdgesTest {
    private static final String FULL = "; 87 * make(NULL, 0)";

    static Sentences sentences() {
        return new Sentences("Terms")
            .says("REFUSALS change nothing and answer, the first that fits:", TermsRefusalsEdgesTest::firstThatFits)
            .says("-1 an unknown number,", TermsRefusalsEdgesTest::unknownNumber)
            .says("-2 outside a range,", TermsRefusalsEdgesTest::outsideARange)
            .says("-3 not in this state (another KIND, ACCESS too low),", TermsRefusalsEdgesTest::notInThisState)
            .says("-4 no room.", TermsRefusalsEdgesTest::noRoom);
    }

    public static void main(String[] args) {
        sentences().run();
    }

    /** Each call fits two refusals or more; without the first, the next call answers the second, and so on. */
    private static void firstThatFits(Trial t) {
        // 100 objects, one of each KIND at the beginning, and no ACCESS at all
        t.after(Kinds.ONE_OF_EACH + FULL, "entry(7, 1, 1); attribute(4, ACCESS, 0); attribute(5, ACCESS, 0)",
            "attribute(6, ACCESS, 0); attribute(7, ACCESS, 0); make(NULL, 0)");
        chain(t, "make(12, -1)", -1, "make(STRING, 65)", -2, "make(STRING, 64)", -4);
        chain(t, "make(12, 0)", -1, "make(PACKED, 33)", -2, "make(PACKED, 32)", -4);
        chain(t, "put(100, 1, 256)", -1, "put(4, 1, 256)", -2, "put(4, 0, 256)", -2, "put(4, 1, 255)", -2, "put(4, 0, 255)", -3);
        chain(t, "put(100, 1, 100)", -1, "put(5, 1, 100)", -1, "put(5, 0, 100)", -1, "put(5, 1, 99)", -2, "put(5, 0, 99)", -3);
        chain(t, "put(6, 1, 100)", -3, "put(1, 1, 256)", -3);
        chain(t, "get(100, 1)", -1, "get(4, 1)", -3, "get(5, -1)", -3, "get(6, 1)", -3, "get(1, 1)", -3);
        chain(t, "part(100, 0, 2)", -1, "part(4, 0, 2)", -2, "part(4, 0, 1)", -3);
        chain(t, "part(5, 2, 0)", -2, "part(5, 1, 0)", -3, "part(6, -1, 0)", -2, "part(6, 0, 0)", -3);
        chain(t, "part(7, 0, 2)", -3, "part(1, 0, 2)", -3);
        chain(t, "attribute(100, 3, 4)", -1, "attribute(4, 3, 0)", -2, "attribute(4, 1, 4)", -2, "attribute(4, 1, 3)", -3);
        chain(t, "attribute(100, 2, 2)", -1, "attribute(4, 2, 2)", -2, "attribute(4, 2, 1)", -3);
        chain(t, "attribute(1, 1, 4)", -2, "attribute(1, 1, 0)", -3);
        chain(t, "told(100, 5)", -1, "told(1, 5)", -2);
        chain(t, "compare(100, 4)", -1, "compare(4, 100)", -1, "compare(4, 4)", -3);
        chain(t, "entry(7, 0, 100)", -1, "entry(7, 100, 1)", -1, "entry(7, 0, 1)", -3, "entry(7, 2, 1)", -3);
        chain(t, "look(7, 100)", -1, "look(100, 0)", -1, "look(7, 0)", -3, "look(7, 2)", -3);
        chain(t, "restore(100)", -1, "restore(99)", -3);
        // the same with all ACCESS
        t.after(Kinds.ONE_OF_EACH + FULL, "entry(7, 1, 1); make(NULL, 0)");
        chain(t, "part(4, 0, 2)", -2, "part(4, 0, 1)", -4, "part(7, 0, 2)", -4);
        chain(t, "entry(7, 100, 1)", -1, "entry(7, 0, 1)", -3, "entry(7, 2, 1)", -4);
        chain(t, "look(7, 0)", -3, "look(7, 2)", -5);
        t.thrown("get(4, 1)");
        // 3 SAVES
        t.after("3 * make(SAVE, 0)");
        chain(t, "make(12, 0)", -1, "make(PACKED, 5)", -2, "make(SAVE, 0)", -4);
    }

    /** Calls and their answers in turn. */
    private static void chain(Trial t, Object... callsAndAnswers) {
        for (int k = 0; k < callsAndAnswers.length; k += 2) {
            t.refused((String) callsAndAnswers[k], (Integer) callsAndAnswers[k + 1]);
        }
    }

    private static void unknownNumber(Trial t) {
        t.after(Kinds.ONE_OF_EACH);
        String[] objects = {"-1", "12", "99", "100", "MIN", "MAX"};
        for (String n : objects) {
            String[] calls = {"put(?, 0, 0)", "put(5, 0, ?)", "get(?, 0)", "part(?, 0, 0)", "attribute(?, 0, 0)", "told(?, 0)",
                "compare(?, 1)", "compare(1, ?)", "length(?)", "entry(?, 1, 1)", "entry(7, ?, 1)", "entry(7, 1, ?)", "look(?, 1)",
                "look(7, ?)", "kind(?)", "restore(?)"};
            for (String call : calls) {
                t.refused(call.replace("?", n), -1);
            }
            t.refused("same(" + n + ", " + n + ")", 0);
        }
        t.refused("make(-1, 0)", -1);
        t.refused("make(12, 0)", -1);
    }

    private static void outsideARange(Trial t) {
        t.after(Kinds.ONE_OF_EACH);
        String[] calls = {"make(BOOLEAN, ?)", "make(NAME, ?)", "make(STRING, ?)", "make(ARRAY, ?)", "make(PACKED, ?)",
            "make(DICTIONARY, ?)", "put(4, ?, 0)", "put(4, 0, ?)", "put(5, ?, 0)", "part(4, ?, 0)", "part(4, 0, ?)", "part(5, ?, 0)",
            "part(5, 0, ?)", "part(6, ?, 0)", "part(6, 0, ?)", "attribute(7, ?, 0)", "attribute(7, 0, ?)", "attribute(7, 1, ?)",
            "attribute(7, 2, ?)", "told(7, ?)"};
        int[] most = {1, 999, 64, 32, 12, 32, 0, 255, 0, 1, 1, 1, 1, 1, 1, 2, 1, 3, 1, 4};
        for (int k = 0; k < calls.length; k++) {
            t.refused(calls[k].replace("?", "-1"), -2);
            t.refused(calls[k].replace("?", "MIN"), -2);
            t.refused(calls[k].replace("?", Integer.toString(most[k] + 1)), -2);
            t.refused(calls[k].replace("?", "MAX"), -2);
        }
        // just inside none is refused so
        for (int k = 0; k < calls.length; k++) {
            t.after(Kinds.ONE_OF_EACH);
            t.taken(calls[k].replace("?", "0"));
            t.after(Kinds.ONE_OF_EACH);
            t.taken(calls[k].replace("?", Integer.toString(most[k])));
        }
    }

    private static void notInThisState(Trial t) {
        String[] lowered = new String[] {"", "; attribute(4, ACCESS, 1); attribute(5, ACCESS, 1); attribute(6, ACCESS, 1)"
            + "; attribute(7, ACCESS, 1)"};
        for (String access : lowered) {
            t.after(Kinds.ONE_OF_EACH + access);
            for (int kind = Kinds.NULL; kind <= Kinds.SAVE; kind++) {
                boolean all = access.isEmpty();
                boolean putable = kind == Kinds.STRING || kind == Kinds.ARRAY;
                boolean view = putable || kind == Kinds.PACKED;
                boolean dictionary = kind == Kinds.DICTIONARY;
                refusedUnless(t, putable && all, "put(" + kind + ", 0, 0)");
                refusedUnless(t, view && all, "get(" + kind + ", 0)");
                refusedUnless(t, (view || dictionary) && all, "part(" + kind + ", 0, 0)");
                refusedUnless(t, dictionary && all, "entry(" + kind + ", 1, 1)");
                refusedUnless(t, dictionary && all, "look(" + kind + ", 1)");
                refusedUnless(t, kind == Kinds.NUMBER || kind == Kinds.STRING && all, "compare(" + kind + ", " + kind + ")");
                refusedUnless(t, dictionary, "attribute(" + kind + ", GROWS, 1)");
                refusedUnless(t, view || dictionary || kind == Kinds.FILE, "attribute(" + kind + ", ACCESS, 0)");
                refusedUnless(t, view || dictionary || kind == Kinds.NAME, "length(" + kind + ")");
                refusedUnless(t, kind == Kinds.SAVE, "restore(" + kind + ")");
            }
        }
    }

    /** A call that fits is left to the tests of its promise. */
    private static void refusedUnless(Trial t, boolean fits, String call) {
        if (!fits) {
            t.refused(call, -3);
        }
    }

    private static void noRoom(Trial t) {
        t.after(Kinds.ONE_OF_EACH + FULL, "make(NULL, 0); entry(7, 1, 1)");
        for (int kind = Kinds.NULL; kind <= Kinds.SAVE; kind++) {
            t.refused("make(" + kind + ", 1)", -4);
        }
        for (int kind = Kinds.STRING; kind <= Kinds.DICTIONARY; kind++) {
            t.refused("part(" + kind + ", 0, 1)", -4);
        }
        t.refused("entry(7, 2, 2)", -4);
        t.after("3 * make(SAVE, 0)");
        t.refused("make(SAVE, 0)", -4);
        // one less of each, and there is room
        t.after(Kinds.ONE_OF_EACH + FULL);
        t.is("part(4, 0, 1)", 99);
        t.is("entry(7, 1, 1)", 1);
        t.after("2 * make(SAVE, 0)");
        t.is("make(SAVE, 0)", 3);
    }
}
