/** Promise 2. */
public final class MakeTest {
    private static final Due due = new Due();

    public static void main(String[] args) {
        numbersComeInOrder();
        unknownKinds();
        sizesAtTheirEdges();
        sizesThatAreNotLookedAt();
        stringsAndArraysBegin();
        packedHoldTheLastObjects();
        hundredObjects();
        threeSaves();
        firstRefusalThatFits();
        due.end();
    }

    private static void numbersComeInOrder() {
        ObjectRows x = new ObjectRows();
        for (int kind = 0; kind <= Kinds.SAVE; kind++) {
            due.is("make(" + kind + ", 1)", x.make(kind, 1), kind + 1);
            due.is("its kind", x.kind(kind + 1), kind);
            due.is("its EXECUTABLE", x.told(kind + 1, Kinds.EXECUTABLE), 0);
            due.is("its GROWS", x.told(kind + 1, Kinds.GROWS), 0);
        }
    }

    private static void unknownKinds() {
        ObjectRows x = new ObjectRows();
        int[] kinds = {-1, 12, 13, Integer.MIN_VALUE, Integer.MAX_VALUE};
        for (int kind : kinds) {
            due.is("make(" + kind + ", 0)", x.make(kind, 0), -1);
        }
        due.is("nothing made", x.kind(1), -1);
        due.is("nothing taken", x.used(), 8);
    }

    private static void sizesAtTheirEdges() {
        int[] kinds = {Kinds.BOOLEAN, Kinds.NAME, Kinds.STRING, Kinds.ARRAY, Kinds.PACKED, Kinds.DICTIONARY};
        int[] most = {1, 999, 64, 32, 32, 32};
        for (int k = 0; k < kinds.length; k++) {
            ObjectRows x = new ObjectRows();
            Kinds.fill(x, 40);
            due.is("least of kind " + kinds[k], x.make(kinds[k], 0), 40);
            due.is("most of kind " + kinds[k], x.make(kinds[k], most[k]), 41);
            int[] wrong = {-1, most[k] + 1, Integer.MIN_VALUE, Integer.MAX_VALUE};
            for (int size : wrong) {
                due.is("make(" + kinds[k] + ", " + size + ")", x.make(kinds[k], size), -2);
            }
            due.is("nothing made", x.kind(42), -1);
        }
    }

    private static void sizesThatAreNotLookedAt() {
        int[] kinds = {Kinds.NULL, Kinds.NUMBER, Kinds.MARK, Kinds.FILE, Kinds.OPERATOR};
        int[] sizes = {0, -1, 1000, Integer.MIN_VALUE, Integer.MAX_VALUE};
        ObjectRows x = new ObjectRows();
        int made = 1;
        for (int kind : kinds) {
            for (int size : sizes) {
                due.is("make(" + kind + ", " + size + ")", x.make(kind, size), made);
                boolean numbered = kind != Kinds.NULL && kind != Kinds.MARK;
                due.is("its number", x.told(made, Kinds.ITS_NUMBER), numbered ? size : 0);
                made++;
            }
        }
        due.is("make(11, MIN)", x.make(Kinds.SAVE, Integer.MIN_VALUE), made);
        due.is("make(11, MAX)", x.make(Kinds.SAVE, Integer.MAX_VALUE), made + 1);
        due.is("a SAVE's number", x.told(made + 1, Kinds.ITS_NUMBER), 0);
        due.is("used()", x.used(), 8 * (made + 2));
    }

    private static void stringsAndArraysBegin() {
        ObjectRows x = new ObjectRows();
        int string = x.make(Kinds.STRING, 64);
        int array = x.make(Kinds.ARRAY, 32);
        for (int i = 0; i < 64; i++) {
            due.is("byte " + i, x.get(string, i), 0);
        }
        for (int i = 0; i < 32; i++) {
            due.is("element " + i, x.get(array, i), 0);
        }
        due.outside(x, string, 64);
        due.outside(x, array, 32);
        due.is("told(1, 1)", x.told(string, Kinds.ACCESS), 3);
        due.is("told(2, 1)", x.told(array, Kinds.ACCESS), 3);
    }

    private static void packedHoldTheLastObjects() {
        ObjectRows x = new ObjectRows();
        due.is("two of one object", x.make(Kinds.PACKED, 2), -2);
        due.is("one of one object", x.make(Kinds.PACKED, 1), 1);
        due.is("get(1, 0)", x.get(1, 0), 0);
        due.is("three of two objects", x.make(Kinds.PACKED, 3), -2);
        due.is("two of two objects", x.make(Kinds.PACKED, 2), 2);
        due.is("get(2, 0)", x.get(2, 0), 0);
        due.is("get(2, 1)", x.get(2, 1), 1);
        due.is("an empty one", x.make(Kinds.PACKED, 0), 3);
        due.outside(x, 3, 0);
        Kinds.fill(x, 50);
        due.is("32 of 50", x.make(Kinds.PACKED, 32), 50);
        for (int i = 0; i < 32; i++) {
            due.is("get(50, " + i + ")", x.get(50, i), 18 + i);
        }
        due.is("told(50, 1)", x.told(50, Kinds.ACCESS), 2);
        Kinds.fill(x, 60);
        due.is("it stays as it is", x.get(50, 31), 49);
    }

    private static void hundredObjects() {
        ObjectRows x = new ObjectRows();
        Kinds.fill(x, 99);
        due.is("the hundredth", x.make(Kinds.NUMBER, 5), 99);
        for (int kind = 0; kind <= Kinds.SAVE; kind++) {
            due.is("make(" + kind + ", 1)", x.make(kind, 1), -4);
        }
        due.is("used()", x.used(), 800);
        due.is("kind(100)", x.kind(100), -1);
    }

    private static void threeSaves() {
        ObjectRows x = new ObjectRows();
        for (int save = 1; save <= 3; save++) {
            due.is("make(11, 0)", x.make(Kinds.SAVE, 0), save);
        }
        due.is("a fourth", x.make(Kinds.SAVE, 0), -4);
        due.is("used()", x.used(), 32);
        due.is("another KIND", x.make(Kinds.MARK, 0), 4);
        due.is("restore(3)", x.restore(3), 3);
        due.is("a third again", x.make(Kinds.SAVE, 0), 3);
        due.is("a fourth again", x.make(Kinds.SAVE, 0), -4);
        due.is("restore(1)", x.restore(1), 1);
        for (int save = 1; save <= 3; save++) {
            due.is("make(11, 0) again", x.make(Kinds.SAVE, 0), save);
        }
    }

    private static void firstRefusalThatFits() {
        ObjectRows x = new ObjectRows();
        Kinds.fill(x, 100);
        due.is("no KIND, no room", x.make(12, -1), -1);
        due.is("no size, no room", x.make(Kinds.STRING, 65), -2);
        due.is("no room", x.make(Kinds.STRING, 64), -4);
    }
}
