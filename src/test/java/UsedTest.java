/** Promise 14. */
public final class UsedTest {
    private static final Due due = new Due();

    public static void main(String[] args) {
        eachKind();
        partsTakeAnObjectAlone();
        growing();
        otherCallsTakeNone();
        restored();
        due.end();
    }

    private static void eachKind() {
        int[] place = {0, 0, 0, 0, 1, 8, 4, 16, 0, 0, 0, 0};
        int[] most = {99, 99, 1, 999, 64, 32, 32, 32, 99, 99, 99, 99};
        ObjectRows x = new ObjectRows();
        Kinds.fill(x, 40);
        int used = 320;
        for (int kind = 0; kind <= Kinds.SAVE; kind++) {
            int[] sizes = {0, 1, most[kind]};
            for (int size : sizes) {
                x.make(kind, size);
                used += 8 + place[kind] * size;
                due.is("used() after make(" + kind + ", " + size + ")", x.used(), used);
            }
        }
        x.make(12, 0);
        x.make(Kinds.STRING, 65);
        x.make(Kinds.SAVE, 0);
        due.is("used() after refusals", x.used(), used);
    }

    private static void partsTakeAnObjectAlone() {
        ObjectRows x = new ObjectRows();
        Kinds.fill(x, 40);
        for (int kind = Kinds.STRING; kind <= Kinds.DICTIONARY; kind++) {
            int made = x.make(kind, 32);
            int used = x.used();
            x.part(made, 0, 32);
            due.is("used() after a part of kind " + kind, x.used(), used + 8);
            x.part(made, 32, 0);
            due.is("used() after an empty part of kind " + kind, x.used(), used + 16);
        }
    }

    private static void growing() {
        ObjectRows x = new ObjectRows();
        int dict = x.make(Kinds.DICTIONARY, 20);
        int other = x.part(dict, 0, 0);
        x.attribute(dict, Kinds.GROWS, 1);
        for (int k = 0; k < 32; k++) {
            x.entry(k % 2 == 0 ? dict : other, x.make(Kinds.NAME, k), 0);
            int capacity = k < 20 ? 20 : 32;
            due.is("used() with " + (k + 1), x.used(), 8 * (4 + k) + 16 * capacity);
        }
    }

    private static void otherCallsTakeNone() {
        ObjectRows x = Kinds.oneOfEach();
        int used = x.used();
        x.put(Kinds.STRING, 0, 1);
        x.put(Kinds.ARRAY, 0, 1);
        x.attribute(Kinds.DICTIONARY, Kinds.GROWS, 1);
        x.entry(Kinds.DICTIONARY, 1, 1);
        x.look(Kinds.DICTIONARY, 1);
        x.length(Kinds.NAME);
        x.same(1, 2);
        x.compare(1, 1);
        due.is("used()", x.used(), used);
    }

    private static void restored() {
        ObjectRows x = new ObjectRows();
        int dict = x.make(Kinds.DICTIONARY, 1);
        x.attribute(dict, Kinds.GROWS, 1);
        x.entry(dict, dict, 0);
        int save = x.make(Kinds.SAVE, 0);
        due.is("a SAVE takes 8", x.used(), 40);
        x.make(Kinds.STRING, 10);
        x.entry(dict, save, 0);
        due.is("used()", x.used(), 40 + 18 + 32);
        x.restore(save);
        due.is("it takes none any more", x.used(), 32);
    }
}
