/** Promise 5. */
public final class PartTest {
    private static final Due due = new Due();

    public static void main(String[] args) {
        viewsOfAllKinds();
        partsThatAreNotThere();
        partsOfParts();
        attributesComeAlong();
        dictionaries();
        otherKinds();
        access();
        hundredObjects();
        firstRefusalThatFits();
        due.end();
    }

    private static void viewsOfAllKinds() {
        for (int kind = Kinds.STRING; kind <= Kinds.PACKED; kind++) {
            ObjectRows x = new ObjectRows();
            Kinds.fill(x, 10);
            x.make(kind, 4);
            due.is("all of it", x.part(10, 0, 4), 11);
            due.is("the middle", x.part(10, 1, 2), 12);
            due.is("none at the beginning", x.part(10, 0, 0), 13);
            due.is("none at the end", x.part(10, 4, 0), 14);
            due.is("kind(12)", x.kind(12), kind);
            int[] lengths = {4, 2, 0, 0};
            for (int k = 0; k < lengths.length; k++) {
                due.is("length(" + (11 + k) + ")", x.length(11 + k), lengths[k]);
                due.outside(x, 11 + k, lengths[k]);
            }
        }
        ObjectRows x = new ObjectRows();
        Kinds.fill(x, 5);
        x.make(Kinds.PACKED, 5);
        x.part(5, 2, 2);
        due.is("get(6, 0)", x.get(6, 0), 2);
        due.is("get(6, 1)", x.get(6, 1), 3);
    }

    private static void partsThatAreNotThere() {
        ObjectRows x = new ObjectRows();
        int max = Integer.MAX_VALUE;
        int min = Integer.MIN_VALUE;
        int[][] wrong = {{0, 5}, {1, 4}, {4, 1}, {5, 0}, {-1, 1}, {-1, 0}, {0, -1}, {4, -1}, {max, 1}, {1, max},
            {max, max}, {min, 0}, {0, min}, {min, min}, {max, -max}, {5, -1}};
        Kinds.fill(x, 10);
        for (int kind = Kinds.STRING; kind <= Kinds.PACKED; kind++) {
            int made = x.make(kind, 4);
            for (int[] w : wrong) {
                due.is("part(" + made + ", " + w[0] + ", " + w[1] + ")", x.part(made, w[0], w[1]), -2);
            }
        }
        due.is("nothing made", x.kind(13), -1);
        due.is("used()", x.used(), 13 * 8 + 4 + 32 + 16);
    }

    private static void partsOfParts() {
        ObjectRows x = new ObjectRows();
        Kinds.text(x, "abcdefgh");
        x.part(1, 2, 5);
        x.part(2, 1, 3);
        due.is("get(3, 0)", x.get(3, 0), 'd');
        due.is("get(3, 2)", x.get(3, 2), 'f');
        due.is("more than the part has", x.part(3, 1, 3), -2);
        due.is("before the part", x.part(3, -1, 2), -2);
        due.is("none behind it", x.part(3, 3, 0), 4);
        due.is("used()", x.used(), 5 * 8 + 8);
    }

    private static void attributesComeAlong() {
        ObjectRows x = new ObjectRows();
        x.make(Kinds.ARRAY, 2);
        x.attribute(1, Kinds.EXECUTABLE, 1);
        x.attribute(1, Kinds.ACCESS, 2);
        x.part(1, 0, 1);
        due.is("EXECUTABLE", x.told(2, Kinds.EXECUTABLE), 1);
        due.is("ACCESS", x.told(2, Kinds.ACCESS), 2);
        x.attribute(1, Kinds.EXECUTABLE, 0);
        x.attribute(1, Kinds.ACCESS, 0);
        due.is("its own EXECUTABLE", x.told(2, Kinds.EXECUTABLE), 1);
        due.is("its own ACCESS", x.told(2, Kinds.ACCESS), 2);
        x.attribute(2, Kinds.EXECUTABLE, 0);
        x.part(2, 0, 0);
        due.is("not EXECUTABLE", x.told(3, Kinds.EXECUTABLE), 0);
    }

    private static void dictionaries() {
        ObjectRows x = new ObjectRows();
        x.make(Kinds.DICTIONARY, 2);
        x.attribute(1, Kinds.EXECUTABLE, 1);
        due.is("part(1, -5, MIN)", x.part(1, -5, Integer.MIN_VALUE), 2);
        due.is("kind(2)", x.kind(2), Kinds.DICTIONARY);
        due.is("EXECUTABLE", x.told(2, Kinds.EXECUTABLE), 1);
        due.is("part(2, MAX, 1)", x.part(2, Integer.MAX_VALUE, 1), 3);
        x.make(Kinds.NAME, 7);
        due.is("entry(3, 4, 2)", x.entry(3, 4, 2), 1);
        due.is("look(1, 4)", x.look(1, 4), 2);
        due.is("length(2)", x.length(2), 1);
        due.is("capacity", x.told(3, Kinds.CAPACITY), 2);
        x.attribute(3, Kinds.GROWS, 1);
        due.is("GROWS", x.told(1, Kinds.GROWS), 1);
        x.attribute(2, Kinds.ACCESS, 2);
        due.is("ACCESS of all", x.told(1, Kinds.ACCESS), 2);
        due.is("ACCESS of all", x.told(3, Kinds.ACCESS), 2);
        x.attribute(1, Kinds.EXECUTABLE, 0);
        due.is("its own EXECUTABLE", x.told(2, Kinds.EXECUTABLE), 1);
        due.is("used()", x.used(), 5 * 8 + 32);
    }

    private static void otherKinds() {
        ObjectRows x = Kinds.oneOfEach();
        for (int kind = 0; kind <= Kinds.SAVE; kind++) {
            if (kind < Kinds.STRING || kind > Kinds.DICTIONARY) {
                due.is("part of kind " + kind, x.part(kind, 0, 0), -3);
                due.is("nothing is outside", x.part(kind, -1, 5), -3);
            }
        }
        due.is("part(12, 0, 0)", x.part(12, 0, 0), -1);
        due.is("part(-1, 0, 0)", x.part(-1, 0, 0), -1);
    }

    private static void access() {
        for (int kind = Kinds.STRING; kind <= Kinds.DICTIONARY; kind++) {
            ObjectRows x = new ObjectRows();
            x.make(kind, 1);
            x.attribute(1, Kinds.ACCESS, 2);
            due.is("ACCESS 2", x.part(1, 0, 1), 2);
            x.attribute(1, Kinds.ACCESS, 1);
            due.is("ACCESS 1", x.part(1, 0, 1), -3);
            x.attribute(1, Kinds.ACCESS, 0);
            due.is("ACCESS 0", x.part(1, 0, 0), -3);
            due.is("the other view", x.part(2, 0, 0), kind == Kinds.DICTIONARY ? -3 : 3);
        }
    }

    private static void hundredObjects() {
        ObjectRows x = new ObjectRows();
        x.make(Kinds.STRING, 1);
        x.make(Kinds.DICTIONARY, 1);
        Kinds.fill(x, 99);
        due.is("the hundredth", x.part(1, 0, 1), 99);
        due.is("no room", x.part(1, 0, 1), -4);
        due.is("no room", x.part(2, 0, 1), -4);
    }

    private static void firstRefusalThatFits() {
        ObjectRows x = new ObjectRows();
        x.make(Kinds.STRING, 1);
        x.attribute(1, Kinds.ACCESS, 1);
        Kinds.fill(x, 100);
        due.is("outside, ACCESS 1, no room", x.part(1, 1, 1), -2);
        due.is("ACCESS 1, no room", x.part(1, 0, 1), -3);
        due.is("another KIND, no room", x.part(2, 9, 9), -3);
        due.is("not there, no room", x.part(100, 0, 1), -1);
    }
}
