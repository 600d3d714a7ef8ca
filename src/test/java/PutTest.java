/** Promise 3. */
public final class PutTest {
    private static final Due due = new Due();

    public static void main(String[] args) {
        bytes();
        elements();
        allViewsSeeIt();
        storesAreApart();
        otherKinds();
        lowAccess();
        firstRefusalThatFits();
        due.end();
    }

    private static void bytes() {
        ObjectRows x = new ObjectRows();
        x.make(Kinds.STRING, 64);
        due.is("put(1, 0, 0)", x.put(1, 0, 0), 1);
        due.is("put(1, 0, 255)", x.put(1, 0, 255), 1);
        due.is("put(1, 63, 7)", x.put(1, 63, 7), 1);
        due.is("get(1, 0)", x.get(1, 0), 255);
        due.is("get(1, 63)", x.get(1, 63), 7);
        due.is("get(1, 1)", x.get(1, 1), 0);
        due.is("v 256", x.put(1, 0, 256), -2);
        due.is("v -1", x.put(1, 0, -1), -2);
        due.is("i 64", x.put(1, 64, 1), -2);
        due.is("i -1", x.put(1, -1, 1), -2);
        due.is("i MAX", x.put(1, Integer.MAX_VALUE, 1), -2);
        due.is("i MIN", x.put(1, Integer.MIN_VALUE, 1), -2);
        due.is("get(1, 0)", x.get(1, 0), 255);
        x.make(Kinds.STRING, 0);
        due.is("an empty one", x.put(2, 0, 1), -2);
    }

    private static void elements() {
        ObjectRows x = new ObjectRows();
        x.make(Kinds.ARRAY, 32);
        due.is("itself", x.put(1, 0, 1), 1);
        due.is("the last", x.put(1, 31, 1), 1);
        due.is("get(1, 0)", x.get(1, 0), 1);
        due.is("get(1, 31)", x.get(1, 31), 1);
        due.is("back to 0", x.put(1, 0, 0), 1);
        due.is("get(1, 0)", x.get(1, 0), 0);
        due.is("i 32", x.put(1, 32, 0), -2);
        due.is("i -1", x.put(1, -1, 0), -2);
        due.is("no object 2", x.put(1, 0, 2), -1);
        due.is("no object -1", x.put(1, 0, -1), -1);
        due.is("no object 100", x.put(1, 0, 100), -1);
        due.is("get(1, 0)", x.get(1, 0), 0);
    }

    private static void allViewsSeeIt() {
        ObjectRows x = new ObjectRows();
        x.make(Kinds.STRING, 6);
        x.part(1, 1, 4);
        x.part(2, 1, 2);
        due.is("put(3, 0, 9)", x.put(3, 0, 9), 1);
        due.is("get(1, 2)", x.get(1, 2), 9);
        due.is("get(2, 1)", x.get(2, 1), 9);
        due.is("outside of the view alone", x.put(3, 2, 9), -2);
        due.is("put(1, 3, 8)", x.put(1, 3, 8), 1);
        due.is("get(3, 1)", x.get(3, 1), 8);
        int array = x.make(Kinds.ARRAY, 3);
        int part = x.part(array, 1, 2);
        due.is("put of an element", x.put(part, 1, part), 1);
        due.is("get of it", x.get(array, 2), part);
    }

    private static void storesAreApart() {
        ObjectRows x = new ObjectRows();
        for (int k = 1; k <= 20; k++) {
            x.make(k % 2 == 0 ? Kinds.STRING : Kinds.ARRAY, 5);
        }
        for (int k = 1; k <= 20; k++) {
            for (int i = 0; i < 5; i++) {
                x.put(k, i, (k + i) % 20);
            }
        }
        for (int k = 1; k <= 20; k++) {
            for (int i = 0; i < 5; i++) {
                due.is("get(" + k + ", " + i + ")", x.get(k, i), (k + i) % 20);
            }
        }
    }

    private static void otherKinds() {
        ObjectRows x = Kinds.oneOfEach();
        for (int kind = 0; kind <= Kinds.SAVE; kind++) {
            if (kind != Kinds.STRING && kind != Kinds.ARRAY) {
                due.is("put to kind " + kind, x.put(kind, 0, 0), -3);
                due.is("nothing is outside", x.put(kind, 99, 300), -3);
                due.is("no object either", x.put(kind, 0, -1), -3);
            }
        }
        due.is("put(12, 0, 0)", x.put(12, 0, 0), -1);
        due.is("put(-1, 0, 0)", x.put(-1, 0, 0), -1);
        due.is("put(MAX, 0, 0)", x.put(Integer.MAX_VALUE, 0, 0), -1);
    }

    private static void lowAccess() {
        for (int access = 2; access >= 0; access--) {
            ObjectRows x = new ObjectRows();
            x.make(Kinds.STRING, 1);
            x.make(Kinds.ARRAY, 1);
            x.part(1, 0, 1);
            x.attribute(1, Kinds.ACCESS, access);
            x.attribute(2, Kinds.ACCESS, access);
            due.is("put(1, 0, 1) with ACCESS " + access, x.put(1, 0, 1), -3);
            due.is("put(2, 0, 1) with ACCESS " + access, x.put(2, 0, 1), -3);
            due.is("the other view", x.put(3, 0, 1), 1);
        }
    }

    private static void firstRefusalThatFits() {
        ObjectRows x = new ObjectRows();
        x.make(Kinds.STRING, 1);
        x.make(Kinds.ARRAY, 1);
        x.attribute(1, Kinds.ACCESS, 0);
        x.attribute(2, Kinds.ACCESS, 0);
        due.is("i outside, ACCESS 0", x.put(1, 1, 0), -2);
        due.is("v outside, ACCESS 0", x.put(1, 0, 256), -2);
        due.is("no v, i outside, ACCESS 0", x.put(2, 1, 3), -1);
        due.is("i outside, ACCESS 0", x.put(2, 1, 0), -2);
        due.is("ACCESS 0", x.put(2, 0, 0), -3);
    }
}
