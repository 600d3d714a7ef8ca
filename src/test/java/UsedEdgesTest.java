/** Promise 14, sentence by sentence; what takes how much is tried in TermsStorageEdgesTest. */
public final class UsedEdgesTest {
    static Sentences sentences() {
        return new Sentences("Promise 14: used")
            .says("STORAGE.", UsedEdgesTest::storage);
    }

    public static void main(String[] args) {
        sentences().run();
    }

    private static void storage(Trial t) {
        t.refused("used()", 8);
        t.is("make(STRING, 64)", 1);
        t.refused("used()", 8 + 8 + 64);
        // what is no new object and no new place takes nothing
        t.is("put(1, 63, 255)", 1);
        t.is("attribute(1, EXECUTABLE, 1)", 1);
        t.is("used()", 80);
        t.refused("make(STRING, 65)", -2);
        t.refused("part(1, 0, 65)", -2);
        t.is("used()", 80);
        t.is("part(1, 0, 64)", 2);
        t.is("used()", 88);
        // the most that there can be: 100 objects with the most places, and one object
        t.after("99 * make(DICTIONARY, 32)");
        t.is("used()", 100 * 8 + 99 * 32 * 16);
        t.refused("make(DICTIONARY, 32)", -4);
        t.is("used()", 100 * 8 + 99 * 32 * 16);
        t.after("99 * make(ARRAY, 32)");
        t.is("used()", 100 * 8 + 99 * 32 * 8);
        t.after("99 * make(STRING, 64)");
        t.is("used()", 100 * 8 + 99 * 64);
    }
}
