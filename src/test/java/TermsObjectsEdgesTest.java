/** The Terms OBJECTS and KINDS, sentence by sentence. */
public final class TermsObjectsEdgesTest {
    static Sentences sentences() {
        return new Sentences("Terms")
            .says("OBJECTS are numbered from 0 on as they are made, at most 100 at a time;", TermsObjectsEdgesTest::numbered)
            .says("0 is a NULL, always.", TermsObjectsEdgesTest::zeroIsNull)
            .says("Each has a KIND and is EXECUTABLE or not (at first not).", TermsObjectsEdgesTest::executableOrNot)
            .says("KINDS: 0 NULL, 1 NUMBER,", TermsObjectsEdgesTest::nullsAndNumbers)
            .says("2 BOOLEAN (0, 1),", TermsObjectsEdgesTest::booleans)
            .says("3 NAME (0 .. 999),", TermsObjectsEdgesTest::names)
            .says("4 STRING (0 .. 64 bytes),", TermsObjectsEdgesTest::strings)
            .says("5 ARRAY, 6 PACKED (0 .. 32 elements each, which are objects),", TermsObjectsEdgesTest::arraysAndPacked)
            .says("7 DICTIONARY (a capacity of 0 .. 32),", TermsObjectsEdgesTest::dictionaries)
            .says("8 MARK, 9 FILE, 10 OPERATOR (a number each),", TermsObjectsEdgesTest::marksFilesOperators)
            .says("11 SAVE.", TermsObjectsEdgesTest::saves);
    }

    public static void main(String[] args) {
        sentences().run();
    }

    private static void numbered(Trial t) {
        t.is("kind(0)", Kinds.NULL);
        t.is("kind(1)", -1);
        t.is("make(STRING, 1)", 1);
        t.is("part(1, 0, 1)", 2);
        t.is("make(MARK, 0)", 3);
        t.is("kind(4)", -1);
        t.after("97 * make(NULL, 0)");
        t.is("make(STRING, 1)", 98);
        t.is("part(98, 0, 1)", 99);
        t.refused("make(MARK, 0)", -4);
        t.refused("part(98, 0, 1)", -4);
        t.is("kind(99)", Kinds.STRING);
        t.is("kind(100)", -1);
        // at a time: those that are gone make room
        t.after("48 * make(NULL, 0); make(SAVE, 0); 50 * make(NULL, 0)");
        t.refused("make(MARK, 0)", -4);
        t.is("restore(49)", 49);
        for (int made = 49; made <= 99; made++) {
            t.is("make(MARK, 0)", made);
        }
        t.refused("make(MARK, 0)", -4);
    }

    private static void zeroIsNull(Trial t) {
        t.is("kind(0)", Kinds.NULL);
        t.refused("put(0, 0, 0)", -3);
        t.refused("attribute(0, ACCESS, 0)", -3);
        t.refused("attribute(0, GROWS, 1)", -3);
        t.refused("restore(0)", -3);
        t.is("attribute(0, EXECUTABLE, 1)", 1);
        t.is("kind(0)", Kinds.NULL);
        t.is("make(SAVE, 0)", 1);
        t.is("restore(1)", 1);
        t.is("kind(0)", Kinds.NULL);
        t.is("told(0, EXECUTABLE)", 1);
        t.is("make(SAVE, 0)", 1);
        t.is("attribute(0, EXECUTABLE, 0)", 1);
        t.is("restore(1)", 1);
        t.is("told(0, EXECUTABLE)", 1);
        t.after("99 * make(MARK, 0)");
        t.is("kind(0)", Kinds.NULL);
        t.is("same(0, 1)", 0);
    }

    private static void executableOrNot(Trial t) {
        t.after(Kinds.ONE_OF_EACH);
        for (int kind = Kinds.NULL; kind <= Kinds.SAVE; kind++) {
            t.is("kind(" + kind + ")", kind);
            t.is("told(" + kind + ", EXECUTABLE)", 0);
            t.is("attribute(" + kind + ", EXECUTABLE, 1)", 1);
            t.is("told(" + kind + ", EXECUTABLE)", 1);
            t.is("attribute(" + kind + ", EXECUTABLE, 0)", 1);
            t.is("told(" + kind + ", EXECUTABLE)", 0);
        }
        // also one whose number an EXECUTABLE one had
        t.after("make(SAVE, 0); make(MARK, 0); attribute(1, EXECUTABLE, 1); attribute(2, EXECUTABLE, 1); restore(1)");
        t.is("make(MARK, 0)", 1);
        t.is("make(MARK, 0)", 2);
        t.is("told(1, EXECUTABLE)", 0);
        t.is("told(2, EXECUTABLE)", 0);
    }

    /** Sizes 0 and the most are some, those beside them are none. */
    private static void range(Trial t, String kind, int number, int most) {
        t.after("32 * make(NULL, 0)");
        t.is("make(" + kind + ", 0)", 33);
        t.is("make(" + kind + ", " + most + ")", 34);
        t.refused("make(" + kind + ", -1)", -2);
        t.refused("make(" + kind + ", " + (most + 1) + ")", -2);
        t.is("kind(33)", number);
        t.is("kind(34)", number);
    }

    private static void nullsAndNumbers(Trial t) {
        t.refused("make(-1, 0)", -1);
        t.is("make(0, 0)", 1);
        t.is("kind(1)", 0);
        t.is("same(0, 1)", 1);
        t.is("make(1, MIN)", 2);
        t.is("make(1, MAX)", 3);
        t.is("kind(2)", 1);
        t.is("told(2, ITS_NUMBER)", Integer.MIN_VALUE);
        t.is("told(3, ITS_NUMBER)", Integer.MAX_VALUE);
    }

    private static void booleans(Trial t) {
        range(t, "2", Kinds.BOOLEAN, 1);
        t.is("told(33, ITS_NUMBER)", 0);
        t.is("told(34, ITS_NUMBER)", 1);
    }

    private static void names(Trial t) {
        range(t, "3", Kinds.NAME, 999);
        t.is("told(33, ITS_NUMBER)", 0);
        t.is("told(34, ITS_NUMBER)", 999);
    }

    private static void strings(Trial t) {
        range(t, "4", Kinds.STRING, 64);
        t.thrown("get(33, 0)");
        t.is("get(34, 63)", 0);
        t.thrown("get(34, 64)");
    }

    private static void arraysAndPacked(Trial t) {
        range(t, "6", Kinds.PACKED, 32);
        t.thrown("get(33, 0)");
        t.is("get(34, 31)", 33);
        t.thrown("get(34, 32)");
        range(t, "5", Kinds.ARRAY, 32);
        t.thrown("get(33, 0)");
        t.is("get(34, 31)", 0);
        t.thrown("get(34, 32)");
        // which are objects
        t.is("put(34, 31, 34)", 1);
        t.refused("put(34, 31, 35)", -1);
        t.refused("put(34, 31, -1)", -1);
        t.is("put(34, 31, 0)", 1);
    }

    private static void dictionaries(Trial t) {
        range(t, "7", Kinds.DICTIONARY, 32);
        t.is("told(33, CAPACITY)", 0);
        t.is("told(34, CAPACITY)", 32);
        t.refused("entry(33, 33, 33)", -4);
        t.is("entry(34, 33, 33)", 1);
    }

    private static void marksFilesOperators(Trial t) {
        int made = 0;
        for (int kind = 8; kind <= 10; kind++) {
            int[] numbers = {Integer.MIN_VALUE, -1, 0, Integer.MAX_VALUE};
            for (int number : numbers) {
                made++;
                t.is("make(" + kind + ", " + number + ")", made);
                t.is("kind(" + made + ")", kind);
                // a MARK has none, as told says
                t.is("told(" + made + ", ITS_NUMBER)", kind == Kinds.MARK ? 0 : number);
            }
        }
    }

    private static void saves(Trial t) {
        t.is("make(11, 0)", 1);
        t.is("kind(1)", 11);
        t.refused("make(12, 0)", -1);
        t.is("restore(1)", 1);
    }
}
