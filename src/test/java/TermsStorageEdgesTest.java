/** The Term STORAGE, sentence by sentence. */
public final class TermsStorageEdgesTest {
    static Sentences sentences() {
        return new Sentences("Terms")
            .says("STORAGE: an object takes 8 bytes;", TermsStorageEdgesTest::anObject)
            .says("with it, when its store is made, a STRING 1 for each byte,", TermsStorageEdgesTest::strings)
            .says("an ARRAY 8,", TermsStorageEdgesTest::arrays)
            .says("a PACKED one 4 for each element,", TermsStorageEdgesTest::packed)
            .says("a DICTIONARY 16 for each place of its capacity (so when it grows).", TermsStorageEdgesTest::dictionaries);
    }

    public static void main(String[] args) {
        sentences().run();
    }

    private static void anObject(Trial t) {
        t.is("used()", 8);
        int[] kinds = {Kinds.NULL, Kinds.NUMBER, Kinds.BOOLEAN, Kinds.NAME, Kinds.MARK, Kinds.FILE, Kinds.OPERATOR, Kinds.SAVE};
        int made = 1;
        for (int kind : kinds) {
            t.is("make(" + kind + ", 1)", made);
            made++;
            t.is("used()", 8 * made);
        }
        // whatever its number
        t.is("make(NUMBER, MIN)", made);
        t.is("make(FILE, MAX)", made + 1);
        t.is("make(NAME, 999)", made + 2);
        t.is("used()", 8 * (made + 3));
        t.after("98 * make(NULL, 0)");
        t.is("used()", 99 * 8);
        t.is("make(MARK, 0)", 99);
        t.is("used()", 100 * 8);
        t.refused("make(MARK, 0)", -4);
        t.is("used()", 100 * 8);
    }

    /** Stores of 0, of 1 and of the most elements; a view takes no more for them, however many they are. */
    private static void store(Trial t, String kind, int most, int each) {
        int[] sizes = {0, 1, most};
        for (int size : sizes) {
            t.after("31 * make(NULL, 0); make(" + kind + ", " + size + ")");
            int due = 33 * 8 + size * each;
            t.is("used()", due);
            t.is("part(32, 0, " + size + ")", 33);
            t.is("used()", due + 8);
            t.is("part(33, 0, 0)", 34);
            t.is("used()", due + 16);
            t.refused("part(32, 0, " + (size + 1) + ")", -2);
            t.refused("make(" + kind + ", " + (most + 1) + ")", -2);
            t.is("used()", due + 16);
        }
    }

    private static void strings(Trial t) {
        store(t, "STRING", 64, 1);
        t.after("make(STRING, 2); put(1, 0, 255); put(1, 1, 1)");
        t.is("used()", 18);
    }

    private static void arrays(Trial t) {
        store(t, "ARRAY", 32, 8);
        t.after("make(ARRAY, 2); put(1, 0, 1); put(1, 1, 1)");
        t.is("used()", 32);
    }

    private static void packed(Trial t) {
        store(t, "PACKED", 32, 4);
    }

    private static void dictionaries(Trial t) {
        int[] capacities = {0, 1, 32};
        for (int capacity : capacities) {
            t.after("make(DICTIONARY, " + capacity + ")");
            t.is("used()", 16 + capacity * 16);
            t.is("part(1, 0, 0)", 2);
            t.is("used()", 24 + capacity * 16);
        }
        // its places, not its ENTRIES
        t.after("make(DICTIONARY, 2)");
        t.is("used()", 48);
        t.is("entry(1, 1, 1)", 1);
        t.is("used()", 48);
        growing(t);
    }

    private static void growing(Trial t) {
        t.after("make(DICTIONARY, 0); attribute(1, GROWS, 1)");
        t.is("used()", 16);
        int capacity = 0;
        for (int key = 2; key <= 33; key++) {
            t.is("make(NUMBER, " + key + ")", key);
            t.is("entry(1, " + key + ", 0)", 1);
            if (key - 1 > capacity) {
                capacity = Math.min(32, 2 * capacity + 1);
            }
            t.is("used()", (key + 1) * 8 + capacity * 16);
        }
        t.is("make(MARK, 0)", 34);
        t.refused("entry(1, 34, 0)", -4);
        t.is("used()", 35 * 8 + 32 * 16);
        t.is("entry(1, 33, 1)", 1);
        t.is("used()", 35 * 8 + 32 * 16);
    }
}
