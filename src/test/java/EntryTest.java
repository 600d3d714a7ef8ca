/** Promise 11. */
public final class EntryTest {
    private static final Due due = new Due();

    public static void main(String[] args) {
        inPlaceOfOne();
        keysOfAllKinds();
        stringsStandForNames();
        noKeys();
        full();
        grows();
        growsFromEachCapacity();
        thirtyTwoEntries();
        access();
        firstRefusalThatFits();
        due.end();
    }

    private static void inPlaceOfOne() {
        ObjectRows x = new ObjectRows();
        x.make(Kinds.DICTIONARY, 2);
        x.make(Kinds.NUMBER, 5);
        x.make(Kinds.NUMBER, 5);
        due.is("entry(1, 2, 1)", x.entry(1, 2, 1), 1);
        due.is("look(1, 3)", x.look(1, 3), 1);
        due.is("entry(1, 3, 0)", x.entry(1, 3, 0), 1);
        due.is("look(1, 2)", x.look(1, 2), 0);
        due.is("length(1)", x.length(1), 1);
        due.is("the dictionary as a KEY", x.entry(1, 1, 1), 1);
        due.is("full, in place of one", x.entry(1, 2, 3), 1);
        due.is("look(1, 2)", x.look(1, 2), 3);
        due.is("look(1, 1)", x.look(1, 1), 1);
    }

    private static void keysOfAllKinds() {
        ObjectRows x = Kinds.oneOfEach();
        int dict = x.make(Kinds.DICTIONARY, 32);
        x.put(Kinds.STRING, 0, '8');
        for (int kind = 1; kind <= Kinds.SAVE; kind++) {
            due.is("KEY of kind " + kind, x.entry(dict, kind, kind), 1);
        }
        due.is("length", x.length(dict), 11);
        for (int kind = 1; kind <= Kinds.SAVE; kind++) {
            due.is("look of kind " + kind, x.look(dict, kind), kind);
        }
        due.is("another MARK", x.entry(dict, x.make(Kinds.MARK, 9), 0), 1);
        due.is("another view", x.entry(dict, x.part(Kinds.ARRAY, 0, 1), 0), 1);
        due.is("another PACKED view", x.entry(dict, x.part(Kinds.PACKED, 0, 1), 0), 1);
        due.is("another object of a dictionary", x.entry(dict, x.part(Kinds.DICTIONARY, 0, 1), 0), 1);
        due.is("length as before", x.length(dict), 11);
        due.is("an empty ARRAY", x.entry(dict, x.make(Kinds.ARRAY, 0), 1), 1);
        due.is("an empty PACKED one", x.entry(dict, x.make(Kinds.PACKED, 0), 1), 1);
        due.is("another ARRAY", x.entry(dict, x.make(Kinds.ARRAY, 1), 1), 1);
        due.is("length", x.length(dict), 13);
        due.is("look of a MARK", x.look(dict, Kinds.MARK), 0);
        due.is("look of the ARRAY", x.look(dict, Kinds.ARRAY), 0);
    }

    private static void stringsStandForNames() {
        ObjectRows x = new ObjectRows();
        int dict = x.make(Kinds.DICTIONARY, 5);
        int text = Kinds.text(x, "42");
        due.is("a STRING", x.entry(dict, text, 1), 1);
        x.put(text, 0, '5');
        due.is("its bytes are others now", x.look(dict, text), -5);
        int name = x.make(Kinds.NAME, 42);
        due.is("the NAME", x.look(dict, name), 1);
        due.is("a NUMBER is none", x.look(dict, x.make(Kinds.NUMBER, 42)), -5);
        due.is("in place of it", x.entry(dict, name, 2), 1);
        due.is("length", x.length(dict), 1);
        due.is("another one", x.entry(dict, text, 3), 1);
        due.is("NAME 52", x.look(dict, x.make(Kinds.NAME, 52)), 3);
        x.put(text, 0, '4');
        due.is("the STRING as it was", x.look(dict, text), 2);
    }

    private static void noKeys() {
        ObjectRows x = new ObjectRows();
        int dict = x.make(Kinds.DICTIONARY, 5);
        String[] texts = {"", "a", "01", "00", "000", "1000", "9999", "4 ", " 4", "-1", "4:", "/4", "12345"};
        for (String text : texts) {
            due.is("KEY '" + text + "'", x.entry(dict, Kinds.text(x, text), 0), -3);
        }
        due.is("NULL", x.entry(dict, 0, 0), -3);
        due.is("another NULL", x.entry(dict, x.make(Kinds.NULL, 0), 0), -3);
        int text = Kinds.text(x, "7");
        x.attribute(text, Kinds.ACCESS, 1);
        due.is("a STRING that cannot be read", x.entry(dict, text, 0), -3);
        due.is("length", x.length(dict), 0);
        String[] names = {"0", "9", "10", "99", "100", "999"};
        x.attribute(dict, Kinds.GROWS, 1);
        for (String name : names) {
            due.is("KEY '" + name + "'", x.entry(dict, Kinds.text(x, name), 0), 1);
        }
        due.is("length", x.length(dict), 6);
    }

    private static void full() {
        ObjectRows x = new ObjectRows();
        int dict = x.make(Kinds.DICTIONARY, 0);
        int one = x.make(Kinds.NAME, 1);
        due.is("no place at all", x.entry(dict, one, 0), -4);
        due.is("length", x.length(dict), 0);
        int other = x.make(Kinds.DICTIONARY, 1);
        due.is("the only place", x.entry(other, one, 0), 1);
        due.is("full", x.entry(other, dict, 0), -4);
        due.is("capacity", x.told(other, Kinds.CAPACITY), 1);
        due.is("no such ENTRY", x.look(other, dict), -5);
        due.is("length", x.length(other), 1);
    }

    private static void grows() {
        ObjectRows x = new ObjectRows();
        int dict = x.make(Kinds.DICTIONARY, 0);
        x.attribute(dict, Kinds.GROWS, 1);
        int[] capacities = {0, 1, 3, 3, 7, 7, 7, 7, 15, 15, 15, 15, 15, 15, 15, 15, 31};
        int used = x.used();
        for (int k = 1; k < capacities.length; k++) {
            due.is("entry " + k, x.entry(dict, x.make(Kinds.NUMBER, k), 0), 1);
            due.is("capacity", x.told(dict, Kinds.CAPACITY), capacities[k]);
            used += 8 + 16 * (capacities[k] - capacities[k - 1]);
            due.is("used()", x.used(), used);
        }
        for (int k = 1; k < capacities.length; k++) {
            due.is("look", x.look(dict, x.make(Kinds.NUMBER, k)), 0);
        }
        x.attribute(dict, Kinds.GROWS, 0);
        for (int k = 17; k <= 31; k++) {
            due.is("entry " + k, x.entry(dict, x.make(Kinds.NUMBER, k), 0), 1);
        }
        int last = x.make(Kinds.NUMBER, 32);
        due.is("it grows no more", x.entry(dict, last, 0), -4);
        x.attribute(x.part(dict, 0, 0), Kinds.GROWS, 1);
        due.is("it grows again", x.entry(dict, last, 0), 1);
        due.is("capacity", x.told(dict, Kinds.CAPACITY), 32);
    }

    private static void growsFromEachCapacity() {
        for (int capacity = 0; capacity <= 31; capacity++) {
            ObjectRows x = new ObjectRows();
            x.make(Kinds.DICTIONARY, capacity);
            x.attribute(1, Kinds.GROWS, 1);
            for (int k = 0; k < capacity; k++) {
                x.entry(1, x.make(Kinds.NAME, k), 0);
            }
            due.is("full, but not grown", x.told(1, Kinds.CAPACITY), capacity);
            due.is("in place of one", capacity == 0 ? 1 : x.entry(1, 2, 1), 1);
            due.is("not grown", x.told(1, Kinds.CAPACITY), capacity);
            due.is("one more", x.entry(1, x.make(Kinds.NAME, capacity), 0), 1);
            due.is("grown", x.told(1, Kinds.CAPACITY), Math.min(2 * capacity + 1, 32));
        }
    }

    private static void thirtyTwoEntries() {
        for (int grows = 0; grows <= 1; grows++) {
            ObjectRows x = new ObjectRows();
            int dict = x.make(Kinds.DICTIONARY, 32);
            x.attribute(dict, Kinds.GROWS, grows);
            for (int k = 0; k < 32; k++) {
                due.is("entry", x.entry(dict, x.make(Kinds.NAME, k), k % 2), 1);
            }
            int used = x.used();
            int more = x.make(Kinds.NAME, 32);
            due.is("a 33rd", x.entry(dict, more, 0), -4);
            due.is("in place of one", x.entry(dict, more - 1, dict), 1);
            due.is("the last", x.look(dict, more - 1), dict);
            due.is("the first", x.look(dict, 2), 0);
            due.is("capacity", x.told(dict, Kinds.CAPACITY), 32);
            due.is("used()", x.used(), used + 8);
        }
    }

    private static void access() {
        for (int access = 2; access >= 0; access--) {
            ObjectRows x = new ObjectRows();
            int dict = x.make(Kinds.DICTIONARY, 5);
            int other = x.part(dict, 0, 0);
            x.attribute(other, Kinds.ACCESS, access);
            due.is("ACCESS " + access, x.entry(dict, dict, 0), -3);
            due.is("length", x.length(dict), 0);
        }
    }

    private static void firstRefusalThatFits() {
        ObjectRows x = Kinds.oneOfEach();
        int[] objects = {-1, 12, 100, Integer.MIN_VALUE, Integer.MAX_VALUE};
        for (int object : objects) {
            due.is("no dict", x.entry(object, 1, 1), -1);
            due.is("no key", x.entry(7, object, 1), -1);
            due.is("no v", x.entry(7, 1, object), -1);
            due.is("no v, no DICTIONARY", x.entry(1, 1, object), -1);
            due.is("no v, no KEY", x.entry(7, 0, object), -1);
        }
        for (int kind = 0; kind <= Kinds.SAVE; kind++) {
            due.is("dict of kind " + kind, x.entry(kind, 1, 1), kind == Kinds.DICTIONARY ? 1 : -3);
        }
        due.is("full, no KEY", x.entry(7, 0, 1), -3);
        due.is("full", x.entry(7, 2, 1), -4);
        x.attribute(7, Kinds.ACCESS, 2);
        due.is("full, ACCESS 2", x.entry(7, 2, 1), -3);
    }
}
