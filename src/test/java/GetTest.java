/** Promise 4. */
public final class GetTest {
    private static final Due due = new Due();

    public static void main(String[] args) {
        elementsAndBytes();
        justOutside();
        otherKinds();
        access();
        due.end();
    }

    private static void elementsAndBytes() {
        ObjectRows x = new ObjectRows();
        x.make(Kinds.STRING, 2);
        x.put(1, 0, 200);
        x.put(1, 1, 3);
        x.make(Kinds.ARRAY, 2);
        x.put(2, 0, 2);
        x.put(2, 1, 1);
        x.make(Kinds.PACKED, 2);
        due.is("get(1, 0)", x.get(1, 0), 200);
        due.is("get(1, 1)", x.get(1, 1), 3);
        due.is("get(2, 0)", x.get(2, 0), 2);
        due.is("get(2, 1)", x.get(2, 1), 1);
        due.is("get(3, 0)", x.get(3, 0), 1);
        due.is("get(3, 1)", x.get(3, 1), 2);
    }

    private static void justOutside() {
        ObjectRows x = new ObjectRows();
        x.make(Kinds.STRING, 64);
        x.make(Kinds.ARRAY, 32);
        x.make(Kinds.PACKED, 3);
        x.part(1, 10, 5);
        x.part(2, 4, 0);
        x.make(Kinds.STRING, 0);
        int[] lengths = {0, 64, 32, 3, 5, 0, 0};
        for (int object = 1; object < lengths.length; object++) {
            due.outside(x, object, -1);
            due.outside(x, object, lengths[object]);
            due.outside(x, object, Integer.MAX_VALUE);
            due.outside(x, object, Integer.MIN_VALUE);
            if (lengths[object] > 0 && object != 3) {
                due.is("the last of " + object, x.get(object, lengths[object] - 1), 0);
            }
        }
        due.is("the last of 3", x.get(3, 2), 2);
    }

    private static void otherKinds() {
        ObjectRows x = Kinds.oneOfEach();
        for (int kind = 0; kind <= Kinds.SAVE; kind++) {
            if (kind < Kinds.STRING || kind > Kinds.PACKED) {
                due.is("get of kind " + kind, x.get(kind, 0), -3);
                due.is("nothing is outside", x.get(kind, -1), -3);
            }
        }
        due.is("get(12, 0)", x.get(12, 0), -1);
        due.is("get(12, -1)", x.get(12, -1), -1);
        due.is("get(-1, 0)", x.get(-1, 0), -1);
        due.is("get(MIN, 0)", x.get(Integer.MIN_VALUE, 0), -1);
    }

    private static void access() {
        for (int kind = Kinds.STRING; kind <= Kinds.PACKED; kind++) {
            ObjectRows x = new ObjectRows();
            x.make(kind, 1);
            x.attribute(1, Kinds.ACCESS, 2);
            due.is("ACCESS 2", x.get(1, 0), 0);
            due.outside(x, 1, 1);
            for (int access = 1; access >= 0; access--) {
                x.attribute(1, Kinds.ACCESS, access);
                due.is("ACCESS " + access, x.get(1, 0), -3);
                due.is("ACCESS " + access + ", outside", x.get(1, 1), -3);
            }
        }
    }
}
