/** Promise 15. */
public final class RestoreTest {
    private static final Due due = new Due();

    public static void main(String[] args) {
        numbersComeAgain();
        arraysArePutBack();
        stringsStay();
        dictionariesArePutBack();
        attributesArePutBack();
        nested();
        outerFirst();
        aSaveIsUsedAgain();
        newStoresBeginAnew();
        newObjectsAreThemselves();
        storesBehindAStringStay();
        full();
        wrongNumbers();
        due.end();
    }

    private static void numbersComeAgain() {
        ObjectRows x = new ObjectRows();
        x.make(Kinds.MARK, 0);
        x.make(Kinds.SAVE, 0);
        x.make(Kinds.NUMBER, 3);
        x.make(Kinds.NUMBER, 4);
        due.is("restore(2)", x.restore(2), 2);
        due.is("kind(1)", x.kind(1), Kinds.MARK);
        due.is("kind(2)", x.kind(2), -1);
        due.is("kind(3)", x.kind(3), -1);
        due.is("restore(2) again", x.restore(2), -1);
        due.is("make", x.make(Kinds.NAME, 9), 2);
        due.is("restore(2), a NAME now", x.restore(2), -3);
        due.is("used()", x.used(), 24);
    }

    private static void arraysArePutBack() {
        ObjectRows x = new ObjectRows();
        x.make(Kinds.ARRAY, 4);
        x.part(1, 1, 2);
        x.put(1, 0, 1);
        x.put(1, 1, 2);
        int save = x.make(Kinds.SAVE, 0);
        x.put(1, 0, save);
        x.put(2, 0, x.make(Kinds.MARK, 0));
        x.put(1, 3, 2);
        x.restore(save);
        int[] want = {1, 2, 0, 0};
        for (int i = 0; i < 4; i++) {
            due.is("get(1, " + i + ")", x.get(1, i), want[i]);
        }
        due.is("get(2, 0)", x.get(2, 0), 2);
        due.outside(x, 1, 4);
    }

    private static void stringsStay() {
        ObjectRows x = new ObjectRows();
        Kinds.text(x, "abc");
        int save = x.make(Kinds.SAVE, 0);
        x.put(1, 1, 'x');
        int part = x.part(1, 2, 1);
        x.put(part, 0, 'y');
        x.restore(save);
        due.is("get(1, 0)", x.get(1, 0), 'a');
        due.is("get(1, 1)", x.get(1, 1), 'x');
        due.is("get(1, 2)", x.get(1, 2), 'y');
    }

    private static void dictionariesArePutBack() {
        ObjectRows x = new ObjectRows();
        int dict = x.make(Kinds.DICTIONARY, 1);
        int key = x.make(Kinds.NAME, 1);
        int other = x.make(Kinds.NAME, 2);
        x.entry(dict, key, key);
        x.attribute(dict, Kinds.GROWS, 1);
        int save = x.make(Kinds.SAVE, 0);
        x.entry(dict, key, other);
        x.entry(dict, other, other);
        x.entry(dict, save, save);
        x.entry(dict, dict, dict);
        x.attribute(dict, Kinds.GROWS, 0);
        x.attribute(dict, Kinds.ACCESS, 1);
        due.is("capacity before", x.told(dict, Kinds.CAPACITY), 7);
        x.restore(save);
        due.is("capacity", x.told(dict, Kinds.CAPACITY), 1);
        due.is("length", x.length(dict), 1);
        due.is("ACCESS", x.told(dict, Kinds.ACCESS), 3);
        due.is("GROWS", x.told(dict, Kinds.GROWS), 1);
        due.is("the ENTRY", x.look(dict, key), key);
        due.is("no ENTRY any more", x.look(dict, other), -5);
        due.is("no ENTRY any more", x.look(dict, dict), -5);
        due.is("used()", x.used(), 4 * 8 + 16);
        due.is("it grows again", x.entry(dict, other, other), 1);
        due.is("capacity", x.told(dict, Kinds.CAPACITY), 3);
    }

    private static void attributesArePutBack() {
        ObjectRows x = Kinds.oneOfEach();
        x.attribute(Kinds.NAME, Kinds.EXECUTABLE, 1);
        x.attribute(Kinds.FILE, Kinds.ACCESS, 2);
        int save = x.make(Kinds.SAVE, 0);
        for (int object = 0; object <= save; object++) {
            x.attribute(object, Kinds.EXECUTABLE, object == Kinds.NAME ? 0 : 1);
            x.attribute(object, Kinds.ACCESS, 0);
        }
        x.restore(save);
        int[] access = {0, 0, 0, 0, 3, 3, 2, 3, 0, 2, 0, 0};
        for (int object = 0; object < save; object++) {
            due.is("EXECUTABLE of " + object, x.told(object, 0), object == Kinds.NAME ? 1 : 0);
            due.is("ACCESS of " + object, x.told(object, 1), access[object]);
        }
        ObjectRows y = new ObjectRows();
        y.make(Kinds.DICTIONARY, 1);
        y.make(Kinds.SAVE, 0);
        int other = y.part(1, 0, 0);
        y.attribute(other, Kinds.ACCESS, 0);
        y.restore(2);
        due.is("ACCESS that a later object set", y.told(1, Kinds.ACCESS), 3);
    }

    private static ObjectRows threeLevels() {
        ObjectRows x = new ObjectRows();
        x.make(Kinds.ARRAY, 1);
        for (int level = 0; level < 3; level++) {
            x.make(Kinds.SAVE, 0);
            x.put(1, 0, 2 + level);
        }
        return x;
    }

    private static void nested() {
        ObjectRows x = threeLevels();
        due.is("get(1, 0)", x.get(1, 0), 4);
        due.is("restore(4)", x.restore(4), 4);
        due.is("get(1, 0)", x.get(1, 0), 3);
        due.is("restore(3)", x.restore(3), 3);
        due.is("get(1, 0)", x.get(1, 0), 2);
        due.is("restore(2)", x.restore(2), 2);
        due.is("get(1, 0)", x.get(1, 0), 0);
    }

    private static void outerFirst() {
        ObjectRows x = threeLevels();
        due.is("restore(3)", x.restore(3), 3);
        due.is("the inner one is gone", x.restore(4), -1);
        due.is("get(1, 0)", x.get(1, 0), 2);
        due.is("make(11, 0)", x.make(Kinds.SAVE, 0), 3);
        x.put(1, 0, 1);
        due.is("make(11, 0)", x.make(Kinds.SAVE, 0), 4);
        due.is("a fourth", x.make(Kinds.SAVE, 0), -4);
        due.is("restore(2)", x.restore(2), 2);
        due.is("get(1, 0)", x.get(1, 0), 0);
        due.is("used()", x.used(), 24);
    }

    private static void aSaveIsUsedAgain() {
        ObjectRows x = new ObjectRows();
        x.make(Kinds.ARRAY, 1);
        for (int turn = 0; turn < 20; turn++) {
            int made = x.make(Kinds.ARRAY, 32);
            x.put(made, 31, made);
            x.put(1, 0, made);
            int save = x.make(Kinds.SAVE, 0);
            x.put(1, 0, save);
            x.put(made, 31, save);
            due.is("restore", x.restore(save), save);
            due.is("get(1, 0)", x.get(1, 0), made);
            due.is("get(" + made + ", 31)", x.get(made, 31), made);
        }
    }

    private static void newStoresBeginAnew() {
        ObjectRows x = new ObjectRows();
        int save = x.make(Kinds.SAVE, 0);
        int string = Kinds.text(x, "abcd");
        int array = x.make(Kinds.ARRAY, 4);
        int dict = x.make(Kinds.DICTIONARY, 4);
        for (int i = 0; i < 4; i++) {
            x.put(array, i, 1);
        }
        x.attribute(dict, Kinds.GROWS, 1);
        x.attribute(array, Kinds.EXECUTABLE, 1);
        x.attribute(string, Kinds.ACCESS, 0);
        x.entry(dict, save, save);
        x.restore(save);
        string = x.make(Kinds.STRING, 4);
        array = x.make(Kinds.ARRAY, 4);
        dict = x.make(Kinds.DICTIONARY, 4);
        for (int i = 0; i < 4; i++) {
            due.is("byte " + i, x.get(string, i), 0);
            due.is("element " + i, x.get(array, i), 0);
        }
        due.is("length", x.length(dict), 0);
        due.is("GROWS", x.told(dict, Kinds.GROWS), 0);
        due.is("EXECUTABLE", x.told(array, Kinds.EXECUTABLE), 0);
        due.is("ACCESS", x.told(string, Kinds.ACCESS), 3);
    }

    /** Nothing of the objects that are gone shows in those that get their numbers. */
    private static void newObjectsAreThemselves() {
        ObjectRows x = new ObjectRows();
        int save = x.make(Kinds.SAVE, 0);
        x.make(Kinds.NUMBER, 77);
        Kinds.text(x, "abcd");
        x.part(3, 1, 2);
        x.make(Kinds.DICTIONARY, 1);
        x.part(5, 0, 0);
        x.restore(save);
        due.is("a NUMBER", x.told(x.make(Kinds.NUMBER, 5), Kinds.ITS_NUMBER), 5);
        int string = Kinds.text(x, "efgh");
        due.is("a part", x.get(x.part(string, 2, 2), 1), 'h');
        int array = x.make(Kinds.ARRAY, 3);
        x.put(array, 2, array);
        due.is("a part", x.get(x.part(array, 1, 2), 1), array);
        int first = x.make(Kinds.DICTIONARY, 1);
        int second = x.make(Kinds.DICTIONARY, 2);
        due.no("two dictionaries", x.same(first, second));
        due.is("capacity", x.told(first, Kinds.CAPACITY), 1);
        due.is("capacity", x.told(second, Kinds.CAPACITY), 2);
        int other = x.part(second, 0, 0);
        due.yes("one dictionary", x.same(second, other));
        x.entry(other, array, string);
        due.is("look in the second", x.look(second, array), string);
        due.is("look in the first", x.look(first, array), -5);
        int again = x.make(Kinds.SAVE, 0);
        x.put(array, 2, 0);
        x.restore(again);
        due.is("what the SAVE kept", x.get(array, 2), array);
    }

    private static void storesBehindAStringStay() {
        ObjectRows x = new ObjectRows();
        int first = Kinds.text(x, "ab");
        int save = x.make(Kinds.SAVE, 0);
        Kinds.text(x, "cdef");
        x.restore(save);
        int second = Kinds.text(x, "gh");
        x.put(first, 1, 'z');
        due.is("get(first, 0)", x.get(first, 0), 'a');
        due.is("get(first, 1)", x.get(first, 1), 'z');
        due.is("get(second, 0)", x.get(second, 0), 'g');
        due.is("get(second, 1)", x.get(second, 1), 'h');
    }

    private static void full() {
        ObjectRows x = new ObjectRows();
        int dict = x.make(Kinds.DICTIONARY, 32);
        int save = x.make(Kinds.SAVE, 0);
        Kinds.fill(x, 100);
        due.is("no room", x.make(Kinds.MARK, 0), -4);
        due.is("restore", x.restore(save), 2);
        due.is("room again", x.make(Kinds.MARK, 0), 2);
        due.is("entry", x.entry(dict, 2, 2), 1);
        Kinds.fill(x, 99);
        due.is("a SAVE as the hundredth", x.make(Kinds.SAVE, 0), 99);
        due.is("restore(99)", x.restore(99), 99);
        due.is("look", x.look(dict, 2), 2);
    }

    private static void wrongNumbers() {
        ObjectRows x = Kinds.oneOfEach();
        int[] objects = {-1, 12, 100, Integer.MIN_VALUE, Integer.MAX_VALUE};
        for (int object : objects) {
            due.is("restore(" + object + ")", x.restore(object), -1);
        }
        for (int kind = 0; kind < Kinds.SAVE; kind++) {
            due.is("restore of kind " + kind, x.restore(kind), -3);
        }
        due.is("nothing is gone", x.kind(Kinds.SAVE), Kinds.SAVE);
        due.is("restore(11)", x.restore(Kinds.SAVE), 11);
    }
}
