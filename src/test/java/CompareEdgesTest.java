/** Promise 9, sentence by sentence. */
public final class CompareEdgesTest {
    static Sentences sentences() {
        return new Sentences("Promise 9: compare")
            .says("Two NUMBERS,", CompareEdgesTest::numbers)
            .says("or two STRINGS by their bytes (one that is the beginning of another one is less):",
                CompareEdgesTest::strings)
            .says("0 a is less, 1 neither, 2 a is greater.", CompareEdgesTest::threeAnswers)
            .says("-1 there is no such object,", CompareEdgesTest::noObject)
            .says("-3 others, or an ACCESS below 2.", CompareEdgesTest::notSo);
    }

    public static void main(String[] args) {
        sentences().run();
    }

    private static void bothWays(Trial t, int a, int b, int want) {
        t.is("compare(" + a + ", " + b + ")", want);
        t.is("compare(" + b + ", " + a + ")", 2 - want);
    }

    private static void numbers(Trial t) {
        t.after("make(NUMBER, MIN); make(NUMBER, -1); make(NUMBER, 0); make(NUMBER, 1); make(NUMBER, MAX)");
        for (int a = 1; a <= 5; a++) {
            for (int b = a; b <= 5; b++) {
                bothWays(t, a, b, a == b ? 1 : 0);
            }
        }
    }

    private static void strings(Trial t) {
        String[] inOrder = {"", "\0", "\0\0", "\0\u00ff", "A", "A\0", "AA", "AB", "B", "\u007f", "\u0080", "\u00ff"};
        String[] made = new String[inOrder.length];
        for (int k = 0; k < made.length; k++) {
            made[k] = Run.text(k + 1, inOrder[k]);
        }
        t.after(made);
        for (int a = 1; a <= made.length; a++) {
            for (int b = a; b <= made.length; b++) {
                bothWays(t, a, b, a == b ? 1 : 0);
            }
        }
        // the last of 64 bytes, and 63 of them
        t.after("make(STRING, 64); make(STRING, 64); part(1, 0, 63); part(2, 0, 64)");
        bothWays(t, 1, 2, 1);
        bothWays(t, 3, 1, 0);
        bothWays(t, 3, 2, 0);
        t.is("put(2, 63, 1)", 1);
        bothWays(t, 1, 2, 0);
        bothWays(t, 1, 4, 0);
        t.is("put(1, 63, 2)", 1);
        bothWays(t, 1, 2, 2);
        t.is("put(1, 0, 255)", 1);
        bothWays(t, 3, 2, 2);
    }

    private static void threeAnswers(Trial t) {
        t.after("make(NUMBER, 1); make(NUMBER, 2); make(NUMBER, 1)", Run.text(4, "1"), Run.text(5, "2"), Run.text(6, "1"));
        for (int first = 1; first <= 4; first += 3) {
            t.refused("compare(" + first + ", " + (first + 1) + ")", 0);
            t.refused("compare(" + first + ", " + (first + 2) + ")", 1);
            t.refused("compare(" + first + ", " + first + ")", 1);
            t.refused("compare(" + (first + 1) + ", " + first + ")", 2);
        }
    }

    private static void noObject(Trial t) {
        t.after("make(NUMBER, 1); make(MARK, 0)");
        String[] objects = {"-1", "3", "100", "MIN", "MAX"};
        for (String object : objects) {
            t.refused("compare(" + object + ", 1)", -1);
            t.refused("compare(1, " + object + ")", -1);
            t.refused("compare(" + object + ", 2)", -1);
            t.refused("compare(2, " + object + ")", -1);
            t.refused("compare(" + object + ", " + object + ")", -1);
        }
        t.is("compare(1, 1)", 1);
        t.after("make(STRING, 1); make(SAVE, 0); make(STRING, 1); attribute(1, ACCESS, 0); restore(2)");
        t.refused("compare(1, 3)", -1);
        t.refused("compare(2, 1)", -1);
    }

    private static void notSo(Trial t) {
        t.after(Kinds.ONE_OF_EACH);
        for (int a = Kinds.NULL; a <= Kinds.SAVE; a++) {
            for (int b = Kinds.NULL; b <= Kinds.SAVE; b++) {
                boolean fits = a == b && (a == Kinds.NUMBER || a == Kinds.STRING);
                t.refused("compare(" + a + ", " + b + ")", fits ? 1 : -3);
            }
        }
        for (int access = 1; access >= 0; access--) {
            t.after(Run.text(1, "1"), Run.text(2, "1"), "attribute(1, ACCESS, 2); attribute(2, ACCESS, 2)");
            bothWays(t, 1, 2, 1);
            t.is("attribute(1, ACCESS, " + access + ")", 1);
            t.refused("compare(1, 2)", -3);
            t.refused("compare(2, 1)", -3);
            t.refused("compare(1, 1)", -3);
            t.is("compare(2, 2)", 1);
        }
        // a STRING that is the same as a NAME is still another KIND
        t.after(Run.text(1, "7"), "make(NAME, 7); make(NUMBER, 7)");
        t.refused("compare(1, 2)", -3);
        t.refused("compare(2, 2)", -3);
        t.refused("compare(1, 3)", -3);
    }
}
