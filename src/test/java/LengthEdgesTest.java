/** Promise 10, sentence by sentence. */
public final class LengthEdgesTest {
    static Sentences sentences() {
        return new Sentences("Promise 10: length")
            .says("How many bytes or elements;", LengthEdgesTest::bytesAndElements)
            .says("ENTRIES of a DICTIONARY;", LengthEdgesTest::entries)
            .says("digits of a NAME.", LengthEdgesTest::digits)
            .says("-1 there is no such object,", LengthEdgesTest::noObject)
            .says("-3 another KIND.", LengthEdgesTest::anotherKind);
    }

    public static void main(String[] args) {
        sentences().run();
    }

    private static void bytesAndElements(Trial t) {
        lengths(t, "STRING", 64);
        lengths(t, "ARRAY", 32);
        lengths(t, "PACKED", 32);
        // of the view, not of the store; whatever ACCESS it has
        t.after("make(STRING, 5); part(1, 1, 3); part(2, 3, 0); attribute(2, ACCESS, 0)");
        t.is("length(1)", 5);
        t.is("length(2)", 3);
        t.is("length(3)", 0);
        // bytes that are 0 count too
        t.after("make(STRING, 3); put(1, 0, 65)");
        t.is("length(1)", 3);
    }

    private static void lengths(Trial t, String kind, int most) {
        t.after("31 * make(NULL, 0); make(" + kind + ", 0); make(" + kind + ", 1); make(" + kind + ", " + most + ")");
        t.is("length(32)", 0);
        t.is("length(33)", 1);
        t.is("length(34)", most);
    }

    private static void entries(Trial t) {
        t.after("make(DICTIONARY, 32); part(1, 0, 0)");
        t.is("length(1)", 0);
        for (int n = 1; n <= 32; n++) {
            t.is("make(NUMBER, " + n + ")", n + 2);
            t.is("entry(1, " + (n + 2) + ", 0)", 1);
            t.is("length(1)", n);
            t.is("length(2)", n);
        }
        t.is("entry(1, 3, 1)", 1);
        t.is("length(1)", 32);
        t.refused("entry(1, 2, 1)", -4);
        t.is("length(1)", 32);
        t.is("attribute(1, ACCESS, 0)", 1);
        t.is("length(1)", 32);
        t.after("make(DICTIONARY, 0)");
        t.is("length(1)", 0);
    }

    private static void digits(Trial t) {
        int[] names = {0, 1, 9, 10, 11, 99, 100, 101, 999};
        int[] digits = {1, 1, 1, 2, 2, 2, 3, 3, 3};
        for (int k = 0; k < names.length; k++) {
            t.is("make(NAME, " + names[k] + ")", k + 1);
            t.is("length(" + (k + 1) + ")", digits[k]);
        }
    }

    private static void noObject(Trial t) {
        t.after("make(STRING, 1)");
        String[] objects = {"-1", "2", "100", "MIN", "MAX"};
        for (String object : objects) {
            t.refused("length(" + object + ")", -1);
        }
        t.refused("length(1)", 1);
        t.after("make(SAVE, 0); make(STRING, 1); restore(1)");
        t.refused("length(2)", -1);
        t.refused("length(1)", -1);
    }

    private static void anotherKind(Trial t) {
        t.after(Kinds.ONE_OF_EACH);
        for (int kind = Kinds.NULL; kind <= Kinds.SAVE; kind++) {
            boolean has = kind >= Kinds.NAME && kind <= Kinds.DICTIONARY;
            t.refused("length(" + kind + ")", has ? (kind == Kinds.DICTIONARY ? 0 : 1) : -3);
        }
    }
}
