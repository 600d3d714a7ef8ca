/** Promise 4, sentence by sentence. */
public final class GetEdgesTest {
    static Sentences sentences() {
        return new Sentences("Promise 4: get")
            .says("Byte i of a STRING, or the object that is element i of an ARRAY or PACKED one.", GetEdgesTest::element)
            .says("-1 there is no such object,", GetEdgesTest::noObject)
            .says("-3 another KIND, or its ACCESS is below 2;", GetEdgesTest::notSo)
            .says("ArrayIndexOutOfBoundsException otherwise when i is outside.", GetEdgesTest::outside);
    }

    public static void main(String[] args) {
        sentences().run();
    }

    private static void element(Trial t) {
        t.after("make(STRING, 64); put(1, 0, 255); put(1, 63, 128); make(ARRAY, 32); put(2, 0, 2); put(2, 31, 1)");
        t.is("get(1, 0)", 255);
        t.is("get(1, 63)", 128);
        t.is("get(2, 0)", 2);
        t.is("get(2, 31)", 1);
        t.is("make(PACKED, 3)", 3);
        t.is("get(3, 0)", 0);
        t.is("get(3, 2)", 2);
        t.after("98 * make(NULL, 0); make(PACKED, 32)");
        t.is("get(99, 0)", 67);
        t.is("get(99, 31)", 98);
    }

    private static void noObject(Trial t) {
        t.after("make(STRING, 1)");
        String[] objects = {"-1", "2", "100", "MIN", "MAX"};
        for (String object : objects) {
            t.refused("get(" + object + ", 0)", -1);
            t.refused("get(" + object + ", 1)", -1);
            t.refused("get(" + object + ", -1)", -1);
        }
        t.is("get(1, 0)", 0);
        t.after("make(SAVE, 0); make(STRING, 1); restore(1)");
        t.refused("get(2, 0)", -1);
        t.refused("get(1, 0)", -1);
    }

    private static void notSo(Trial t) {
        t.after(Kinds.ONE_OF_EACH);
        for (int kind = Kinds.NULL; kind <= Kinds.SAVE; kind++) {
            if (kind != Kinds.STRING && kind != Kinds.ARRAY && kind != Kinds.PACKED) {
                t.refused("get(" + kind + ", 0)", -3);
                t.refused("get(" + kind + ", 1)", -3);
                t.refused("get(" + kind + ", -1)", -3);
                t.refused("get(" + kind + ", MAX)", -3);
            }
        }
        t.after("make(STRING, 1); make(ARRAY, 1); make(PACKED, 1)");
        int[] first = {0, 0, 2};
        for (int object = 1; object <= 3; object++) {
            t.is("get(" + object + ", 0)", first[object - 1]);
            t.is("attribute(" + object + ", ACCESS, 2)", 1);
            t.is("get(" + object + ", 0)", first[object - 1]);
            for (int access = 1; access >= 0; access--) {
                t.is("attribute(" + object + ", ACCESS, " + access + ")", 1);
                t.refused("get(" + object + ", 0)", -3);
                // below 2 nothing is thrown
                t.refused("get(" + object + ", 1)", -3);
                t.refused("get(" + object + ", -1)", -3);
            }
        }
    }

    private static void outside(Trial t) {
        t.after("make(STRING, 64); make(ARRAY, 32); make(PACKED, 3); make(STRING, 0); make(ARRAY, 0); make(PACKED, 0)");
        int[] sizes = {64, 32, 3, 0, 0, 0};
        for (int object = 1; object <= 6; object++) {
            int size = sizes[object - 1];
            t.thrown("get(" + object + ", -1)");
            t.thrown("get(" + object + ", " + size + ")");
            t.thrown("get(" + object + ", MIN)");
            t.thrown("get(" + object + ", MAX)");
            t.is("attribute(" + object + ", ACCESS, 2)", 1);
            t.thrown("get(" + object + ", -1)");
            t.thrown("get(" + object + ", " + size + ")");
        }
        t.is("get(1, 63)", 0);
        t.is("get(2, 31)", 0);
        t.is("get(3, 2)", 2);
        // in the store, but outside of the view
        t.after("make(STRING, 4); make(ARRAY, 4); 2 * make(MARK, 0); make(PACKED, 4); part(1, 1, 2); part(2, 1, 2)",
            "part(5, 1, 2)");
        int[] first = {0, 0, 2};
        for (int view = 6; view <= 8; view++) {
            t.thrown("get(" + view + ", -1)");
            t.is("get(" + view + ", 0)", first[view - 6]);
            t.is("get(" + view + ", 1)", first[view - 6] == 0 ? 0 : 3);
            t.thrown("get(" + view + ", 2)");
        }
    }
}
