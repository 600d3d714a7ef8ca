/** Promise 10. */
public final class LengthTest {
    private static final Due due = new Due();

    public static void main(String[] args) {
        views();
        names();
        dictionaries();
        others();
        due.end();
    }

    private static void views() {
        ObjectRows x = new ObjectRows();
        int[] lengths = {0, 1, 31, 32};
        for (int length : lengths) {
            due.is("STRING", x.length(x.make(Kinds.STRING, length)), length);
            due.is("ARRAY", x.length(x.make(Kinds.ARRAY, length)), length);
        }
        Kinds.fill(x, 40);
        for (int length : lengths) {
            due.is("PACKED", x.length(x.make(Kinds.PACKED, length)), length);
        }
        int longest = x.make(Kinds.STRING, 64);
        due.is("the longest", x.length(longest), 64);
        int part = x.part(longest, 60, 3);
        due.is("a part", x.length(part), 3);
        x.attribute(part, Kinds.ACCESS, 0);
        due.is("with no ACCESS", x.length(part), 3);
    }

    private static void names() {
        ObjectRows x = new ObjectRows();
        int[] names = {0, 1, 9, 10, 42, 99, 100, 999};
        for (int name : names) {
            due.is("NAME " + name, x.length(x.make(Kinds.NAME, name)), Integer.toString(name).length());
        }
    }

    private static void dictionaries() {
        ObjectRows x = new ObjectRows();
        x.make(Kinds.DICTIONARY, 32);
        due.is("empty", x.length(1), 0);
        for (int k = 1; k <= 32; k++) {
            x.entry(1, x.make(Kinds.NAME, k), 0);
            due.is("length(1)", x.length(1), k);
        }
        x.entry(1, 5, 1);
        due.is("in place of one", x.length(1), 32);
        int part = x.part(1, 0, 0);
        due.is("another object of it", x.length(part), 32);
        x.attribute(1, Kinds.ACCESS, 0);
        due.is("with no ACCESS", x.length(part), 32);
    }

    private static void others() {
        ObjectRows x = Kinds.oneOfEach();
        int[] want = {-3, -3, -3, 1, 1, 1, 1, 0, -3, -3, -3, -3};
        for (int kind = 0; kind <= Kinds.SAVE; kind++) {
            due.is("length of kind " + kind, x.length(kind), want[kind]);
        }
        int[] objects = {-1, 12, 100, Integer.MIN_VALUE, Integer.MAX_VALUE};
        for (int object : objects) {
            due.is("length(" + object + ")", x.length(object), -1);
        }
    }
}
