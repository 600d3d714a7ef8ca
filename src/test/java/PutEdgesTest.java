/** Promise 3, sentence by sentence. */
public final class PutEdgesTest {
    static Sentences sentences() {
        return new Sentences("Promise 3: put")
            .says("Byte i of a STRING, or element i of an ARRAY, becomes v: 1.", PutEdgesTest::becomes)
            .says("-1 there is no such object, or (ARRAY) no object v,", PutEdgesTest::noObject)
            .says("-2 i is outside, or (STRING) v is not 0 .. 255,", PutEdgesTest::outside)
            .says("-3 it is another KIND (PACKED, too; nothing is outside then), or its ACCESS is not 3.",
                PutEdgesTest::notSo);
    }

    public static void main(String[] args) {
        sentences().run();
    }

    private static void becomes(Trial t) {
        t.after("make(STRING, 64)");
        t.is("put(1, 0, 255)", 1);
        t.is("put(1, 63, 1)", 1);
        t.is("get(1, 0)", 255);
        t.is("get(1, 1)", 0);
        t.is("get(1, 62)", 0);
        t.is("get(1, 63)", 1);
        t.is("put(1, 0, 0)", 1);
        t.is("get(1, 0)", 0);
        t.after("make(ARRAY, 32); make(MARK, 0)");
        t.is("put(1, 0, 2)", 1);
        t.is("put(1, 31, 1)", 1);
        t.is("get(1, 0)", 2);
        t.is("get(1, 1)", 0);
        t.is("get(1, 30)", 0);
        t.is("get(1, 31)", 1);
        t.is("put(1, 0, 0)", 1);
        t.is("get(1, 0)", 0);
        t.is("used()", 3 * 8 + 32 * 8);
    }

    private static void noObject(Trial t) {
        t.after("make(STRING, 1); make(ARRAY, 1)");
        String[] objects = {"-1", "3", "100", "MIN", "MAX"};
        for (String object : objects) {
            t.refused("put(" + object + ", 0, 0)", -1);
            t.refused("put(" + object + ", 1, 256)", -1);
            t.refused("put(2, 0, " + object + ")", -1);
            t.refused("put(2, 1, " + object + ")", -1);
            t.refused("put(2, -1, " + object + ")", -1);
        }
        t.is("put(2, 0, 2)", 1);
        t.is("put(2, 0, 0)", 1);
        // a byte is no object
        t.is("put(1, 0, 3)", 1);
        t.is("attribute(2, ACCESS, 2)", 1);
        t.refused("put(2, 0, 3)", -1);
        t.refused("put(2, 1, 3)", -1);
        // an object that is gone is none
        t.after("make(ARRAY, 1); make(SAVE, 0); make(MARK, 0); restore(2)");
        t.refused("put(1, 0, 2)", -1);
        t.refused("put(2, 0, 0)", -1);
        // the hundredth
        t.after("make(ARRAY, 1); 98 * make(NULL, 0)");
        t.is("put(1, 0, 99)", 1);
        t.refused("put(1, 0, 100)", -1);
    }

    private static void outside(Trial t) {
        iOutside(t, "STRING", 64);
        iOutside(t, "ARRAY", 32);
        iOutside(t, "STRING", 0);
        iOutside(t, "ARRAY", 0);
        t.after("make(STRING, 1)");
        t.refused("put(1, 0, -1)", -2);
        t.refused("put(1, 0, 256)", -2);
        t.refused("put(1, 0, MIN)", -2);
        t.refused("put(1, 0, MAX)", -2);
        t.is("put(1, 0, 0)", 1);
        t.is("put(1, 0, 255)", 1);
        t.is("attribute(1, ACCESS, 2)", 1);
        t.refused("put(1, 0, 256)", -2);
        t.refused("put(1, 1, 0)", -2);
        // in the store, but outside of the view
        t.after("make(STRING, 4); part(1, 1, 2); make(ARRAY, 4); part(3, 1, 2)");
        for (int view = 2; view <= 4; view += 2) {
            t.refused("put(" + view + ", -1, 1)", -2);
            t.refused("put(" + view + ", 2, 1)", -2);
            t.is("put(" + view + ", 0, 1)", 1);
            t.is("put(" + view + ", 1, 1)", 1);
        }
    }

    private static void iOutside(Trial t, String kind, int size) {
        t.after("make(" + kind + ", " + size + ")");
        t.refused("put(1, -1, 1)", -2);
        t.refused("put(1, " + size + ", 1)", -2);
        t.refused("put(1, MIN, 1)", -2);
        t.refused("put(1, MAX, 1)", -2);
        if (size > 0) {
            t.is("put(1, 0, 1)", 1);
            t.is("put(1, " + (size - 1) + ", 1)", 1);
        }
        t.is("attribute(1, ACCESS, 0)", 1);
        t.refused("put(1, " + size + ", 1)", -2);
    }

    private static void notSo(Trial t) {
        t.after(Kinds.ONE_OF_EACH);
        for (int kind = Kinds.NULL; kind <= Kinds.SAVE; kind++) {
            if (kind != Kinds.STRING && kind != Kinds.ARRAY) {
                t.refused("put(" + kind + ", 0, 0)", -3);
                t.refused("put(" + kind + ", 1, 0)", -3);
                t.refused("put(" + kind + ", -1, 0)", -3);
                t.refused("put(" + kind + ", 0, 256)", -3);
                t.refused("put(" + kind + ", 0, -1)", -3);
                t.refused("put(" + kind + ", MAX, MIN)", -3);
            }
        }
        t.is("attribute(6, ACCESS, 0)", 1);
        t.refused("put(6, 1, 0)", -3);
        for (int access = 2; access >= 0; access--) {
            t.after("make(STRING, 1); make(ARRAY, 1)");
            t.is("put(1, 0, 1)", 1);
            t.is("put(2, 0, 1)", 1);
            t.is("attribute(1, ACCESS, " + access + ")", 1);
            t.is("attribute(2, ACCESS, " + access + ")", 1);
            t.refused("put(1, 0, 2)", -3);
            t.refused("put(2, 0, 2)", -3);
        }
        // what is hidden by ACCESS has not changed either
        t.after("make(STRING, 1); put(1, 0, 7); make(ARRAY, 1); make(SAVE, 0)");
        t.is("attribute(1, ACCESS, 0)", 1);
        t.is("attribute(2, ACCESS, 0)", 1);
        t.refused("put(1, 0, 1)", -3);
        t.refused("put(2, 0, 1)", -3);
        t.is("restore(3)", 3);
        t.is("get(1, 0)", 7);
        t.is("get(2, 0)", 0);
        t.is("put(1, 0, 1)", 1);
        t.is("put(2, 0, 1)", 1);
    }
}
