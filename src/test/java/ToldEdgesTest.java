/** Promise 7, sentence by sentence. */
public final class ToldEdgesTest {
    static Sentences sentences() {
        return new Sentences("Promise 7: told")
            .says("Of an object: what = 0 EXECUTABLE,", ToldEdgesTest::executable)
            .says("1 ACCESS,", ToldEdgesTest::access)
            .says("2 GROWS,", ToldEdgesTest::grows)
            .says("3 a number (of a NUMBER, BOOLEAN, NAME, FILE, OPERATOR),", ToldEdgesTest::number)
            .says("4 a DICTIONARY's capacity;", ToldEdgesTest::capacity)
            .says("0 if it has none such.", ToldEdgesTest::noneSuch)
            .says("-1 there is no such object,", ToldEdgesTest::noObject)
            .says("-2 no such what.", ToldEdgesTest::noWhat)
            .says("(A NUMBER may be -1, or -2, too.)", ToldEdgesTest::numbersLikeRefusals);
    }

    public static void main(String[] args) {
        sentences().run();
    }

    private static void executable(Trial t) {
        t.after(Kinds.ONE_OF_EACH);
        for (int kind = Kinds.NULL; kind <= Kinds.SAVE; kind++) {
            t.is("told(" + kind + ", 0)", 0);
            t.is("attribute(" + kind + ", EXECUTABLE, 1)", 1);
            t.is("told(" + kind + ", 0)", 1);
        }
    }

    private static void access(Trial t) {
        t.after(Kinds.ONE_OF_EACH);
        int[] access = {0, 0, 0, 0, 3, 3, 2, 3, 0, 3, 0, 0};
        for (int kind = Kinds.NULL; kind <= Kinds.SAVE; kind++) {
            t.is("told(" + kind + ", 1)", access[kind]);
            for (int v = access[kind] - 1; v >= 0; v--) {
                t.is("attribute(" + kind + ", ACCESS, " + v + ")", 1);
                t.is("told(" + kind + ", 1)", v);
            }
        }
    }

    private static void grows(Trial t) {
        t.after("make(DICTIONARY, 0); part(1, 0, 0)");
        t.is("told(1, 2)", 0);
        t.is("attribute(1, GROWS, 1)", 1);
        t.is("told(1, 2)", 1);
        t.is("told(2, 2)", 1);
        t.is("attribute(2, GROWS, 0)", 1);
        t.is("told(1, 2)", 0);
        // also at 32 places, where it grows no more
        t.after("make(DICTIONARY, 32); attribute(1, GROWS, 1)");
        t.is("told(1, 2)", 1);
    }

    private static void number(Trial t) {
        String[] kinds = {"NUMBER", "FILE", "OPERATOR"};
        int[] numbers = {Integer.MIN_VALUE, -3, 0, 1, Integer.MAX_VALUE};
        for (String kind : kinds) {
            for (int number : numbers) {
                t.after("make(" + kind + ", " + number + ")");
                t.is("told(1, 3)", number);
            }
        }
        t.after("make(BOOLEAN, 0); make(BOOLEAN, 1); make(NAME, 0); make(NAME, 1); make(NAME, 999)");
        int[] told = {0, 1, 0, 1, 999};
        for (int object = 1; object <= 5; object++) {
            t.is("told(" + object + ", 3)", told[object - 1]);
        }
        // a FILE's ACCESS does not hide it
        t.after("make(FILE, 7); attribute(1, ACCESS, 0)");
        t.is("told(1, 3)", 7);
    }

    private static void capacity(Trial t) {
        int[] capacities = {0, 1, 31, 32};
        for (int capacity : capacities) {
            t.after("make(DICTIONARY, " + capacity + "); part(1, 0, 0)");
            t.is("told(1, 4)", capacity);
            t.is("told(2, 4)", capacity);
        }
        t.after("make(DICTIONARY, 0); attribute(1, GROWS, 1); entry(1, 1, 1); part(1, 0, 0); attribute(1, ACCESS, 0)");
        t.is("told(1, 4)", 1);
        t.is("told(2, 4)", 1);
    }

    private static void noneSuch(Trial t) {
        // what each KIND has of ACCESS, GROWS, a number, a capacity
        String[] has = {"", "3", "3", "3", "1", "1", "1", "124", "", "13", "3", ""};
        t.after(Kinds.ONE_OF_EACH, "attribute(7, GROWS, 1); entry(7, 7, 7)");
        for (int kind = Kinds.NULL; kind <= Kinds.SAVE; kind++) {
            for (int what = 1; what <= 4; what++) {
                boolean none = has[kind].indexOf('0' + what) < 0;
                t.is("told(" + kind + ", " + what + ")", none ? 0 : what == 1 ? (kind == Kinds.PACKED ? 2 : 3) : 1);
            }
        }
        // a size that is no number, and numbers of gone objects, do not show
        t.after("make(MARK, 5); make(NULL, 6); make(SAVE, 7); make(NUMBER, 8); restore(3)");
        t.is("make(STRING, 9)", 3);
        for (int object = 1; object <= 3; object++) {
            t.is("told(" + object + ", 3)", 0);
        }
        t.after("make(SAVE, 0); make(SAVE, 0)");
        t.is("told(2, 3)", 0);
    }

    private static void noObject(Trial t) {
        t.after("make(NUMBER, 1)");
        String[] objects = {"-1", "2", "100", "MIN", "MAX"};
        for (String object : objects) {
            for (int what = -1; what <= 5; what++) {
                t.refused("told(" + object + ", " + what + ")", -1);
            }
        }
        t.is("told(1, 3)", 1);
        t.after("make(SAVE, 0); make(NUMBER, 1); restore(1)");
        t.refused("told(2, 3)", -1);
        t.refused("told(1, 0)", -1);
    }

    private static void noWhat(Trial t) {
        t.after(Kinds.ONE_OF_EACH);
        String[] whats = {"-1", "5", "MIN", "MAX"};
        for (int kind = Kinds.NULL; kind <= Kinds.SAVE; kind++) {
            for (String what : whats) {
                t.refused("told(" + kind + ", " + what + ")", -2);
            }
            t.is("told(" + kind + ", 0)", 0);
            t.is("told(" + kind + ", 4)", kind == Kinds.DICTIONARY ? 1 : 0);
        }
    }

    private static void numbersLikeRefusals(Trial t) {
        t.after("make(NUMBER, -1); make(NUMBER, -2)");
        t.is("told(1, 3)", -1);
        t.is("told(2, 3)", -2);
        t.is("told(1, 0)", 0);
        t.is("told(2, 4)", 0);
        t.is("told(1, 5)", -2);
        t.is("told(3, 3)", -1);
    }
}
