/** Promise 8. */
public final class SameTest {
    private static final Due due = new Due();

    public static void main(String[] args) {
        eachKindWithItselfAndOthers();
        numbered();
        strings();
        stringsAndNames();
        lists();
        emptyLists();
        dictionaries();
        saves();
        stringsThatCannotBeRead();
        notThere();
        due.end();
    }

    private static void is(ObjectRows x, int a, int b, boolean want) {
        due.is("same(" + a + ", " + b + ")", x.same(a, b) ? 1 : 0, want ? 1 : 0);
        due.is("same(" + b + ", " + a + ")", x.same(b, a) ? 1 : 0, want ? 1 : 0);
    }

    private static void eachKindWithItselfAndOthers() {
        ObjectRows x = Kinds.oneOfEach();
        for (int a = 0; a <= Kinds.SAVE; a++) {
            for (int b = 0; b <= Kinds.SAVE; b++) {
                due.is("same(" + a + ", " + b + ")", x.same(a, b) ? 1 : 0, a == b ? 1 : 0);
            }
        }
    }

    private static void numbered() {
        int[] kinds = {Kinds.NUMBER, Kinds.BOOLEAN, Kinds.NAME, Kinds.FILE, Kinds.OPERATOR};
        for (int kind : kinds) {
            ObjectRows x = new ObjectRows();
            x.make(kind, 0);
            x.make(kind, 1);
            x.make(kind, 0);
            x.attribute(3, Kinds.EXECUTABLE, 1);
            is(x, 1, 2, false);
            is(x, 1, 3, true);
        }
        ObjectRows x = new ObjectRows();
        int[] unnumbered = {Kinds.NULL, Kinds.MARK};
        for (int kind : unnumbered) {
            int a = x.make(kind, 1);
            int b = x.make(kind, 2);
            is(x, a, b, true);
        }
        is(x, 0, 1, true);
        is(x, 1, 3, false);
    }

    private static void strings() {
        ObjectRows x = new ObjectRows();
        Kinds.text(x, "abc");
        Kinds.text(x, "abc");
        Kinds.text(x, "abd");
        Kinds.text(x, "ab");
        is(x, 1, 2, true);
        is(x, 1, 3, false);
        is(x, 1, 4, false);
        x.part(3, 0, 2);
        is(x, 4, 5, true);
        x.put(3, 2, 'c');
        is(x, 1, 3, true);
        x.make(Kinds.STRING, 0);
        x.part(1, 2, 0);
        is(x, 6, 7, true);
        is(x, 6, 0, false);
    }

    private static void stringsAndNames() {
        ObjectRows x = new ObjectRows();
        int[] names = {0, 7, 10, 42, 100, 999};
        for (int name : names) {
            int a = x.make(Kinds.NAME, name);
            is(x, a, Kinds.text(x, Integer.toString(name)), true);
            is(x, a, Kinds.text(x, "0" + name), false);
            is(x, a, Kinds.text(x, name + "0"), false);
            is(x, a, Kinds.text(x, " " + name), false);
        }
        ObjectRows y = new ObjectRows();
        int zero = y.make(Kinds.NAME, 0);
        int one = y.make(Kinds.NAME, 1);
        int number = y.make(Kinds.NUMBER, 1);
        is(y, zero, y.make(Kinds.STRING, 0), false);
        is(y, zero, Kinds.text(y, "00"), false);
        is(y, zero, Kinds.text(y, "/"), false);
        is(y, one, Kinds.text(y, ":"), false);
        int text = Kinds.text(y, "1");
        is(y, one, text, true);
        is(y, number, text, false);
        is(y, one, number, false);
        is(y, y.make(Kinds.BOOLEAN, 1), text, false);
        is(y, y.make(Kinds.NAME, 10), Kinds.text(y, "1:"), false);
        is(y, y.make(Kinds.NAME, 10), Kinds.text(y, ":"), false);
        y.put(text, 0, '2');
        is(y, one, text, false);
    }

    private static void lists() {
        for (int kind = Kinds.ARRAY; kind <= Kinds.PACKED; kind++) {
            ObjectRows x = new ObjectRows();
            Kinds.fill(x, 5);
            int whole = x.make(kind, 4);
            int again = x.part(whole, 0, 4);
            int left = x.part(whole, 0, 2);
            int right = x.part(whole, 2, 2);
            int rest = x.part(x.part(whole, 1, 3), 1, 2);
            is(x, whole, again, true);
            is(x, whole, left, false);
            is(x, left, right, false);
            is(x, right, rest, true);
            x.attribute(rest, Kinds.ACCESS, 0);
            x.attribute(rest, Kinds.EXECUTABLE, 1);
            is(x, right, rest, true);
        }
        ObjectRows x = new ObjectRows();
        x.make(Kinds.ARRAY, 1);
        x.make(Kinds.ARRAY, 1);
        is(x, 1, 2, false);
        ObjectRows y = new ObjectRows();
        y.make(Kinds.ARRAY, 1);
        y.make(Kinds.PACKED, 1);
        y.put(1, 0, 1);
        is(y, 1, 2, false);
    }

    private static void emptyLists() {
        ObjectRows x = new ObjectRows();
        x.make(Kinds.ARRAY, 0);
        x.make(Kinds.ARRAY, 0);
        x.make(Kinds.PACKED, 0);
        x.make(Kinds.PACKED, 3);
        x.part(4, 1, 0);
        x.make(Kinds.ARRAY, 2);
        x.part(6, 2, 0);
        int[] empty = {1, 2, 3, 5, 7};
        for (int a : empty) {
            for (int b : empty) {
                is(x, a, b, true);
            }
            is(x, a, 4, false);
            is(x, a, 6, false);
            is(x, a, 0, false);
        }
        x.make(Kinds.STRING, 0);
        x.make(Kinds.DICTIONARY, 0);
        is(x, 1, 8, false);
        is(x, 1, 9, false);
        is(x, 3, 9, false);
    }

    private static void dictionaries() {
        ObjectRows x = new ObjectRows();
        x.make(Kinds.DICTIONARY, 1);
        x.make(Kinds.DICTIONARY, 1);
        x.part(1, 0, 0);
        x.part(3, 0, 0);
        is(x, 1, 2, false);
        is(x, 1, 3, true);
        is(x, 1, 4, true);
        is(x, 3, 4, true);
        is(x, 2, 3, false);
        x.attribute(1, Kinds.ACCESS, 0);
        is(x, 1, 4, true);
    }

    private static void saves() {
        ObjectRows x = new ObjectRows();
        x.make(Kinds.SAVE, 0);
        x.make(Kinds.SAVE, 0);
        is(x, 1, 1, true);
        is(x, 1, 2, false);
    }

    private static void stringsThatCannotBeRead() {
        ObjectRows x = new ObjectRows();
        Kinds.text(x, "5");
        x.part(1, 0, 1);
        x.make(Kinds.NAME, 5);
        x.attribute(1, Kinds.ACCESS, 2);
        is(x, 1, 2, true);
        is(x, 1, 3, true);
        for (int access = 1; access >= 0; access--) {
            x.attribute(1, Kinds.ACCESS, access);
            is(x, 1, 1, false);
            is(x, 1, 2, false);
            is(x, 1, 3, false);
            is(x, 2, 3, true);
        }
    }

    private static void notThere() {
        ObjectRows x = new ObjectRows();
        int[] objects = {-1, 1, 100, Integer.MIN_VALUE, Integer.MAX_VALUE};
        for (int object : objects) {
            is(x, 0, object, false);
            is(x, object, object, false);
        }
    }
}
