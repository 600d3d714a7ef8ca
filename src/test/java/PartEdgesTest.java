/** Promise 5, sentence by sentence. */
public final class PartEdgesTest {
    /** Object 1 a STRING 7 8 9, object 2 an ARRAY 1 2 0, object 3 a PACKED one 0 1 2. */
    private static final String THREE_VIEWS = "make(STRING, 3); put(1, 0, 7); put(1, 1, 8); put(1, 2, 9);"
        + " make(ARRAY, 3); put(2, 0, 1); put(2, 1, 2); make(PACKED, 3)";
    private static final int[][] ELEMENTS = {{7, 8, 9}, {1, 2, 0}, {0, 1, 2}};

    static Sentences sentences() {
        return new Sentences("Promise 5: part")
            .says("A view of n elements of a STRING, ARRAY, PACKED one, from one on,", PartEdgesTest::views)
            .says("or an object of the same DICTIONARY (from and n are not looked at):", PartEdgesTest::ofADictionary)
            .says("a new object with the same attributes.", PartEdgesTest::sameAttributes)
            .says("-1 there is no such object,", PartEdgesTest::noObject)
            .says("-2 these are not all there,", PartEdgesTest::notAllThere)
            .says("-3 another KIND, or its ACCESS is below 2,", PartEdgesTest::notSo)
            .says("-4 there are 100 objects.", PartEdgesTest::noRoom);
    }

    public static void main(String[] args) {
        sentences().run();
    }

    private static void views(Trial t) {
        for (int object = 1; object <= 3; object++) {
            for (int from = 0; from <= 3; from++) {
                for (int n = 0; n <= 3 - from; n++) {
                    t.after(THREE_VIEWS);
                    t.is("part(" + object + ", " + from + ", " + n + ")", 4);
                    isView(t, object, from, n);
                }
            }
        }
        // the whole of the largest, and a view of a view
        t.after("make(STRING, 64); make(ARRAY, 32); put(1, 63, 5); put(2, 31, 2)");
        t.is("part(1, 0, 64)", 3);
        t.is("get(3, 63)", 5);
        t.is("part(2, 0, 32)", 4);
        t.is("get(4, 31)", 2);
        t.is("part(3, 60, 4)", 5);
        t.is("part(5, 3, 1)", 6);
        t.is("get(6, 0)", 5);
        t.is("put(6, 0, 6)", 1);
        t.is("get(1, 63)", 6);
    }

    private static void isView(Trial t, int object, int from, int n) {
        t.is("kind(4)", Kinds.STRING + object - 1);
        t.is("length(4)", n);
        for (int i = 0; i < n; i++) {
            t.is("get(4, " + i + ")", ELEMENTS[object - 1][from + i]);
        }
        t.thrown("get(4, -1)");
        t.thrown("get(4, " + n + ")");
    }

    private static void ofADictionary(Trial t) {
        String[] numbers = {"MIN", "-1", "0", "1", "33", "MAX"};
        for (String from : numbers) {
            for (String n : numbers) {
                t.after("make(DICTIONARY, 1)");
                t.is("part(1, " + from + ", " + n + ")", 2);
                t.is("kind(2)", Kinds.DICTIONARY);
                t.is("same(1, 2)", 1);
                t.is("entry(2, 2, 2)", 1);
                t.is("look(1, 1)", 2);
            }
        }
        // without a place, and full
        t.after("make(DICTIONARY, 0)");
        t.is("part(1, 0, 0)", 2);
        t.is("told(2, CAPACITY)", 0);
        t.after("make(DICTIONARY, 1); entry(1, 1, 1)");
        t.is("part(1, 0, 0)", 2);
        t.is("length(2)", 1);
        t.is("part(2, 0, 0)", 3);
        t.is("same(1, 3)", 1);
        t.is("used()", 4 * 8 + 16);
    }

    private static void sameAttributes(Trial t) {
        for (int object = 1; object <= 3; object++) {
            for (int executable = 0; executable <= 1; executable++) {
                t.after(THREE_VIEWS, "attribute(" + object + ", EXECUTABLE, " + executable + ")");
                t.is("part(" + object + ", 1, 1)", 4);
                t.is("told(4, EXECUTABLE)", executable);
                t.is("told(4, ACCESS)", object == 3 ? 2 : 3);
                t.is("attribute(" + object + ", ACCESS, 2)", 1);
                t.is("part(" + object + ", 0, 0)", 5);
                t.is("told(5, EXECUTABLE)", executable);
                t.is("told(5, ACCESS)", 2);
                // the same at first; from then on its own
                t.is("attribute(5, EXECUTABLE, " + (1 - executable) + ")", 1);
                t.is("told(" + object + ", EXECUTABLE)", executable);
                t.is("told(4, EXECUTABLE)", executable);
                t.is("attribute(5, ACCESS, 0)", 1);
                t.is("told(" + object + ", ACCESS)", 2);
            }
        }
        t.after("make(DICTIONARY, 3); attribute(1, EXECUTABLE, 1); attribute(1, GROWS, 1); attribute(1, ACCESS, 2)");
        t.is("part(1, 0, 0)", 2);
        t.is("told(2, EXECUTABLE)", 1);
        t.is("told(2, GROWS)", 1);
        t.is("told(2, ACCESS)", 2);
        t.is("told(2, CAPACITY)", 3);
        t.is("attribute(2, EXECUTABLE, 0)", 1);
        t.is("told(1, EXECUTABLE)", 1);
    }

    private static void noObject(Trial t) {
        t.after("make(STRING, 1)");
        String[] objects = {"-1", "2", "100", "MIN", "MAX"};
        for (String object : objects) {
            t.refused("part(" + object + ", 0, 0)", -1);
            t.refused("part(" + object + ", -1, 2)", -1);
        }
        t.is("part(1, 0, 0)", 2);
        t.after("make(SAVE, 0); make(STRING, 1); restore(1)");
        t.refused("part(2, 0, 0)", -1);
        t.refused("part(1, 0, 0)", -1);
        t.after("make(STRING, 1); 98 * make(NULL, 0)");
        t.refused("part(100, 0, 0)", -1);
    }

    private static void notAllThere(Trial t) {
        t.after(THREE_VIEWS);
        for (int object = 1; object <= 3; object++) {
            notAllOf(t, object, 3);
        }
        t.after("make(STRING, 64); make(ARRAY, 32); make(STRING, 0); make(ARRAY, 0); make(PACKED, 0)");
        notAllOf(t, 1, 64);
        notAllOf(t, 2, 32);
        notAllOf(t, 3, 0);
        notAllOf(t, 4, 0);
        notAllOf(t, 5, 0);
        // in the store, but outside of the view
        t.after("make(STRING, 5); part(1, 1, 3)");
        notAllOf(t, 2, 3);
        t.is("part(2, 0, 3)", 3);
        // before an ACCESS that is too low, and before no room
        for (int access = 1; access >= 0; access--) {
            t.after(THREE_VIEWS);
            for (int object = 1; object <= 3; object++) {
                t.is("attribute(" + object + ", ACCESS, " + access + ")", 1);
                t.refused("part(" + object + ", 0, 4)", -2);
                t.refused("part(" + object + ", -1, 1)", -2);
                t.refused("part(" + object + ", 0, 3)", -3);
            }
        }
        t.after("make(STRING, 1); 98 * make(NULL, 0)");
        t.refused("part(1, 0, 2)", -2);
        t.refused("part(1, 2, 0)", -2);
        t.refused("part(1, 0, 1)", -4);
    }

    private static void notAllOf(Trial t, int object, int size) {
        String call = "part(" + object + ", ";
        t.refused(call + "-1, 0)", -2);
        t.refused(call + "-1, 1)", -2);
        t.refused(call + "0, -1)", -2);
        t.refused(call + "0, " + (size + 1) + ")", -2);
        t.refused(call + "1, " + size + ")", -2);
        t.refused(call + size + ", 1)", -2);
        t.refused(call + size + ", -1)", -2);
        t.refused(call + (size + 1) + ", 0)", -2);
        t.refused(call + (size + 1) + ", -1)", -2);
        // sums that wrap around
        t.refused(call + "MAX, 1)", -2);
        t.refused(call + "1, MAX)", -2);
        t.refused(call + "MAX, MAX)", -2);
        t.refused(call + "MIN, MIN)", -2);
        t.refused(call + "MIN, MAX)", -2);
        t.refused(call + "MAX, MIN)", -2);
    }

    private static void notSo(Trial t) {
        t.after(Kinds.ONE_OF_EACH);
        for (int kind = Kinds.NULL; kind <= Kinds.SAVE; kind++) {
            if (kind < Kinds.STRING || kind > Kinds.DICTIONARY) {
                t.refused("part(" + kind + ", 0, 0)", -3);
                t.refused("part(" + kind + ", 0, 1)", -3);
                t.refused("part(" + kind + ", 1, 1)", -3);
                t.refused("part(" + kind + ", -1, MAX)", -3);
            }
        }
        for (int access = 1; access >= 0; access--) {
            t.after(Kinds.ONE_OF_EACH);
            for (int kind = Kinds.STRING; kind <= Kinds.DICTIONARY; kind++) {
                t.is("attribute(" + kind + ", ACCESS, 2)", 1);
                t.is("part(" + kind + ", 0, 1)", 8 + kind);
                t.is("attribute(" + kind + ", ACCESS, " + access + ")", 1);
                t.refused("part(" + kind + ", 0, 1)", -3);
                t.refused("part(" + kind + ", 0, 0)", -3);
            }
            t.refused("part(7, -1, MAX)", -3);
        }
        // before no room
        t.after("make(STRING, 1); attribute(1, ACCESS, 1); make(DICTIONARY, 1); attribute(2, ACCESS, 1)",
            "97 * make(NULL, 0)");
        t.refused("part(1, 0, 1)", -3);
        t.refused("part(2, 0, 1)", -3);
        t.refused("part(99, 0, 0)", -3);
    }

    private static void noRoom(Trial t) {
        String[] kinds = {"STRING", "ARRAY", "PACKED", "DICTIONARY"};
        for (String kind : kinds) {
            t.after("make(" + kind + ", 1); 97 * make(NULL, 0)");
            t.is("part(1, 0, 1)", 99);
            t.refused("part(1, 0, 1)", -4);
            t.refused("part(1, 0, 0)", -4);
            t.refused("part(99, 0, 1)", -4);
        }
        t.refused("part(1, -1, -1)", -4);
        t.after("make(STRING, 1); make(SAVE, 0); 97 * make(NULL, 0)");
        t.refused("part(1, 0, 1)", -4);
        t.is("restore(2)", 2);
        t.is("part(1, 0, 1)", 2);
    }
}
