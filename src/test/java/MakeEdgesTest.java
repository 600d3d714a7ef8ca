/** Promise 2, sentence by sentence. */
public final class MakeEdgesTest {
    static Sentences sentences() {
        return new Sentences("Promise 2: make")
            .says("An object: its number.", MakeEdgesTest::itsNumber)
            .says("Size is the number of a NUMBER, BOOLEAN, NAME, FILE, OPERATOR;", MakeEdgesTest::sizeIsTheNumber)
            .says("how many bytes (0 each) or elements (object 0 each) a STRING or ARRAY has;",
                MakeEdgesTest::bytesAndElements)
            .says("a PACKED one has the last so many objects that there are (object 0, too), in order;",
                MakeEdgesTest::lastObjects)
            .says("a DICTIONARY's capacity;", MakeEdgesTest::capacity)
            .says("for others it is not looked at.", MakeEdgesTest::notLookedAt)
            .says("-1 there is no such KIND,", MakeEdgesTest::noSuchKind)
            .says("-2 size is none (PACKED: also if there are not so many objects),", MakeEdgesTest::sizeIsNone)
            .says("-4 there are 100 objects, or 3 SAVES.", MakeEdgesTest::noRoom);
    }

    public static void main(String[] args) {
        sentences().run();
    }

    private static void itsNumber(Trial t) {
        for (int kind = Kinds.NULL; kind <= Kinds.SAVE; kind++) {
            t.is("make(" + kind + ", 1)", kind + 1);
            t.is("kind(" + (kind + 1) + ")", kind);
        }
        t.refused("make(STRING, 65)", -2);
        t.is("make(STRING, 64)", 13);
        t.after("98 * make(NULL, 0)");
        t.is("make(NUMBER, 5)", 99);
        t.is("told(99, ITS_NUMBER)", 5);
    }

    private static void sizeIsTheNumber(Trial t) {
        int[] numbers = {Integer.MIN_VALUE, -1, 0, 1, 1000, Integer.MAX_VALUE};
        int[] kinds = {Kinds.NUMBER, Kinds.FILE, Kinds.OPERATOR};
        int made = 0;
        for (int kind : kinds) {
            for (int number : numbers) {
                made++;
                t.is("make(" + kind + ", " + number + ")", made);
                t.is("told(" + made + ", ITS_NUMBER)", number);
            }
        }
        t.after("make(BOOLEAN, 0); make(BOOLEAN, 1); make(NAME, 0); make(NAME, 999)");
        t.is("told(1, ITS_NUMBER)", 0);
        t.is("told(2, ITS_NUMBER)", 1);
        t.is("told(3, ITS_NUMBER)", 0);
        t.is("told(4, ITS_NUMBER)", 999);
    }

    private static void bytesAndElements(Trial t) {
        allZero(t, "STRING", 0, 1, 64);
        allZero(t, "ARRAY", 0, 1, 32);
        // also where the bytes and elements of objects lay that are gone
        t.after("make(SAVE, 0)", Run.text(2, "ab"), "make(ARRAY, 2); put(3, 0, 3); put(3, 1, 2); restore(1)");
        t.is("make(STRING, 2)", 1);
        t.is("make(ARRAY, 2)", 2);
        for (int i = 0; i < 2; i++) {
            t.is("get(1, " + i + ")", 0);
            t.is("get(2, " + i + ")", 0);
        }
    }

    private static void allZero(Trial t, String kind, int... sizes) {
        for (int size : sizes) {
            t.after("make(" + kind + ", " + size + ")");
            t.is("length(1)", size);
            for (int i = 0; i < size; i++) {
                t.is("get(1, " + i + ")", 0);
            }
            t.thrown("get(1, -1)");
            t.thrown("get(1, " + size + ")");
        }
    }

    private static void lastObjects(Trial t) {
        t.is("make(PACKED, 0)", 1);
        t.thrown("get(1, 0)");
        t.is("make(PACKED, 1)", 2);
        t.is("get(2, 0)", 1);
        t.thrown("get(2, 1)");
        t.is("make(PACKED, 3)", 3);
        for (int i = 0; i < 3; i++) {
            t.is("get(3, " + i + ")", i);
        }
        t.thrown("get(3, 3)");
        t.after("31 * make(MARK, 0); make(PACKED, 32)");
        t.is("get(32, 0)", 0);
        t.is("get(32, 31)", 31);
        t.after("32 * make(MARK, 0); make(PACKED, 32); make(MARK, 0)");
        for (int i = 0; i < 32; i++) {
            t.is("get(33, " + i + ")", 1 + i);
        }
    }

    private static void capacity(Trial t) {
        int[] capacities = {0, 1, 31, 32};
        for (int capacity : capacities) {
            t.after("make(DICTIONARY, " + capacity + ")");
            t.is("told(1, CAPACITY)", capacity);
            t.is("length(1)", 0);
            for (int key = 2; key < 2 + capacity; key++) {
                t.is("make(NUMBER, " + key + ")", key);
                t.is("entry(1, " + key + ", 0)", 1);
            }
            t.is("make(MARK, 0)", 2 + capacity);
            t.refused("entry(1, " + (2 + capacity) + ", 0)", -4);
            t.is("length(1)", capacity);
        }
    }

    private static void notLookedAt(Trial t) {
        String[] sizes = {"MIN", "-1", "0", "65", "1000", "MAX"};
        int made = 0;
        for (String size : sizes) {
            made++;
            t.is("make(NULL, " + size + ")", made);
            t.is("told(" + made + ", ITS_NUMBER)", 0);
            made++;
            t.is("make(MARK, " + size + ")", made);
            t.is("told(" + made + ", ITS_NUMBER)", 0);
        }
        for (String size : sizes) {
            t.after();
            t.is("make(SAVE, " + size + ")", 1);
            t.is("told(1, ITS_NUMBER)", 0);
            t.is("restore(1)", 1);
        }
    }

    private static void noSuchKind(Trial t) {
        String[] kinds = {"-1", "12", "MIN", "MAX"};
        for (String kind : kinds) {
            t.after("make(STRING, 1)");
            t.refused("make(" + kind + ", 0)", -1);
            t.refused("make(" + kind + ", -1)", -1);
            t.refused("make(" + kind + ", MAX)", -1);
        }
        t.is("make(NULL, 0)", 2);
        t.is("make(SAVE, 0)", 3);
        t.after("99 * make(NULL, 0)");
        t.refused("make(-1, 0)", -1);
        t.refused("make(12, 0)", -1);
        t.after("3 * make(SAVE, 0)");
        t.refused("make(12, 0)", -1);
    }

    private static void sizeIsNone(Trial t) {
        noSuchSize(t, "BOOLEAN", 1);
        noSuchSize(t, "NAME", 999);
        noSuchSize(t, "STRING", 64);
        noSuchSize(t, "ARRAY", 32);
        noSuchSize(t, "PACKED", 32);
        noSuchSize(t, "DICTIONARY", 32);
        t.after();
        t.refused("make(PACKED, 2)", -2);
        t.is("make(PACKED, 1)", 1);
        t.refused("make(PACKED, 3)", -2);
        t.is("make(PACKED, 2)", 2);
        t.after("30 * make(NULL, 0)");
        t.refused("make(PACKED, 32)", -2);
        t.is("make(PACKED, 31)", 31);
        t.is("make(PACKED, 32)", 32);
        t.refused("make(PACKED, 33)", -2);
        // objects that are gone are none that there are
        t.after("make(SAVE, 0); make(MARK, 0); restore(1)");
        t.refused("make(PACKED, 2)", -2);
        t.is("make(PACKED, 1)", 1);
    }

    private static void noSuchSize(Trial t, String kind, int most) {
        t.after("40 * make(NULL, 0)");
        t.refused("make(" + kind + ", -1)", -2);
        t.refused("make(" + kind + ", " + (most + 1) + ")", -2);
        t.refused("make(" + kind + ", MIN)", -2);
        t.refused("make(" + kind + ", MAX)", -2);
        t.is("make(" + kind + ", 0)", 41);
        t.is("make(" + kind + ", " + most + ")", 42);
        t.after("99 * make(NULL, 0)");
        t.refused("make(" + kind + ", -1)", -2);
        t.refused("make(" + kind + ", " + (most + 1) + ")", -2);
        t.refused("make(" + kind + ", " + most + ")", -4);
    }

    private static void noRoom(Trial t) {
        for (int kind = Kinds.NULL; kind <= Kinds.SAVE; kind++) {
            t.after("98 * make(NULL, 0)");
            t.is("make(" + kind + ", 1)", 99);
            t.refused("make(" + kind + ", 1)", -4);
        }
        t.after("make(SAVE, 0); make(SAVE, 0)");
        t.is("make(SAVE, 0)", 3);
        t.refused("make(SAVE, 0)", -4);
        for (int kind = Kinds.NULL; kind < Kinds.SAVE; kind++) {
            t.is("make(" + kind + ", 1)", 4 + kind);
        }
        t.refused("make(SAVE, 0)", -4);
        t.is("restore(3)", 3);
        t.is("make(SAVE, 0)", 3);
        t.refused("make(SAVE, 0)", -4);
        t.is("restore(1)", 1);
        t.is("make(SAVE, 0)", 1);
        t.is("make(SAVE, 0)", 2);
        t.is("make(SAVE, 0)", 3);
        t.refused("make(SAVE, 0)", -4);
    }
}
