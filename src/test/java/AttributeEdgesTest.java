/** Promise 6, sentence by sentence. */
public final class AttributeEdgesTest {
    static Sentences sentences() {
        return new Sentences("Promise 6: attribute")
            .says("What = 0 EXECUTABLE (v 0, 1),", AttributeEdgesTest::executable)
            .says("1 ACCESS (0 .. 3; not higher than it is),", AttributeEdgesTest::access)
            .says("2 GROWS (a DICTIONARY; 0, 1): 1.", AttributeEdgesTest::grows)
            .says("-1 there is no such object,", AttributeEdgesTest::noObject)
            .says("-2 no such what or v,", AttributeEdgesTest::noWhatOrValue)
            .says("-3 it has none such, or ACCESS would be higher.", AttributeEdgesTest::noneSuch);
    }

    public static void main(String[] args) {
        sentences().run();
    }

    private static boolean hasAccess(int kind) {
        return kind >= Kinds.STRING && kind <= Kinds.DICTIONARY || kind == Kinds.FILE;
    }

    private static void executable(Trial t) {
        for (int kind = Kinds.NULL; kind <= Kinds.SAVE; kind++) {
            t.after(Kinds.ONE_OF_EACH);
            int[] values = {1, 1, 0, 0};
            for (int v : values) {
                t.is("attribute(" + kind + ", 0, " + v + ")", 1);
                t.is("told(" + kind + ", EXECUTABLE)", v);
            }
            t.refused("attribute(" + kind + ", 0, -1)", -2);
            t.refused("attribute(" + kind + ", 0, 2)", -2);
            t.is("attribute(" + kind + ", 0, 1)", 1);
            for (int other = Kinds.NULL; other <= Kinds.SAVE; other++) {
                t.is("told(" + other + ", EXECUTABLE)", other == kind ? 1 : 0);
            }
        }
        // whatever ACCESS it has
        t.after("make(STRING, 1); attribute(1, ACCESS, 0)");
        t.is("attribute(1, 0, 1)", 1);
        t.is("told(1, EXECUTABLE)", 1);
        t.is("told(1, ACCESS)", 0);
    }

    private static void access(Trial t) {
        for (int kind = Kinds.NULL; kind <= Kinds.SAVE; kind++) {
            if (hasAccess(kind)) {
                t.after(Kinds.ONE_OF_EACH);
                for (int v = kind == Kinds.PACKED ? 2 : 3; v >= 0; v--) {
                    t.is("attribute(" + kind + ", 1, " + v + ")", 1);
                    t.is("attribute(" + kind + ", 1, " + v + ")", 1);
                    t.is("told(" + kind + ", ACCESS)", v);
                    t.refused("attribute(" + kind + ", 1, " + (v + 1) + ")", v == 3 ? -2 : -3);
                }
                t.refused("attribute(" + kind + ", 1, -1)", -2);
                t.refused("attribute(" + kind + ", 1, 3)", -3);
            }
        }
        t.after("make(FILE, 1)");
        t.is("attribute(1, 1, 0)", 1);
        t.refused("attribute(1, 1, 1)", -3);
        t.is("told(1, ACCESS)", 0);
    }

    private static void grows(Trial t) {
        int[] values = {1, 1, 0, 0};
        t.after("make(DICTIONARY, 0)");
        for (int v : values) {
            t.is("attribute(1, 2, " + v + ")", 1);
            t.is("told(1, GROWS)", v);
        }
        t.refused("attribute(1, 2, -1)", -2);
        t.refused("attribute(1, 2, 2)", -2);
        t.refused("entry(1, 1, 1)", -4);
        t.is("attribute(1, 2, 1)", 1);
        t.is("entry(1, 1, 1)", 1);
        // all objects of one dictionary, and no other
        t.after("make(DICTIONARY, 0); part(1, 0, 0); make(DICTIONARY, 0)");
        t.is("attribute(2, 2, 1)", 1);
        t.is("told(1, GROWS)", 1);
        t.is("told(3, GROWS)", 0);
        t.is("entry(1, 1, 1)", 1);
        t.refused("entry(3, 1, 1)", -4);
        t.is("attribute(1, 2, 0)", 1);
        t.is("told(2, GROWS)", 0);
        // whatever ACCESS it has
        t.after("make(DICTIONARY, 0); attribute(1, ACCESS, 0)");
        t.is("attribute(1, 2, 1)", 1);
        t.is("told(1, GROWS)", 1);
    }

    private static void noObject(Trial t) {
        t.after("make(DICTIONARY, 1)");
        String[] objects = {"-1", "2", "100", "MIN", "MAX"};
        for (String object : objects) {
            for (int what = -1; what <= 3; what++) {
                t.refused("attribute(" + object + ", " + what + ", 1)", -1);
                t.refused("attribute(" + object + ", " + what + ", 4)", -1);
            }
        }
        t.is("attribute(1, 0, 1)", 1);
        t.after("make(SAVE, 0); make(STRING, 1); restore(1)");
        t.refused("attribute(2, 0, 1)", -1);
        t.refused("attribute(1, 0, 1)", -1);
    }

    private static void noWhatOrValue(Trial t) {
        String[] whats = {"-1", "3", "4", "MIN", "MAX"};
        t.after(Kinds.ONE_OF_EACH);
        for (int kind = Kinds.NULL; kind <= Kinds.SAVE; kind++) {
            for (String what : whats) {
                t.refused("attribute(" + kind + ", " + what + ", 0)", -2);
            }
        }
        String[] values = {"-1", "2", "MIN", "MAX"};
        t.after(Kinds.ONE_OF_EACH);
        for (int kind = Kinds.NULL; kind <= Kinds.SAVE; kind++) {
            for (String v : values) {
                t.refused("attribute(" + kind + ", 0, " + v + ")", -2);
                t.refused("attribute(" + kind + ", 1, " + v.replace("2", "4") + ")", -2);
                t.refused("attribute(" + kind + ", 2, " + v + ")", -2);
            }
        }
    }

    private static void noneSuch(Trial t) {
        t.after(Kinds.ONE_OF_EACH);
        for (int kind = Kinds.NULL; kind <= Kinds.SAVE; kind++) {
            for (int v = 0; v <= 3 && !hasAccess(kind); v++) {
                t.refused("attribute(" + kind + ", 1, " + v + ")", -3);
            }
            for (int v = 0; v <= 1 && kind != Kinds.DICTIONARY; v++) {
                t.refused("attribute(" + kind + ", 2, " + v + ")", -3);
            }
        }
        for (int kind = Kinds.NULL; kind <= Kinds.SAVE; kind++) {
            if (hasAccess(kind)) {
                t.after(Kinds.ONE_OF_EACH, "attribute(" + kind + ", ACCESS, 1)");
                t.refused("attribute(" + kind + ", 1, 2)", -3);
                t.refused("attribute(" + kind + ", 1, 3)", -3);
                t.is("attribute(" + kind + ", 1, 1)", 1);
            }
        }
        t.after("make(PACKED, 1)");
        t.refused("attribute(1, 1, 3)", -3);
        t.is("attribute(1, 1, 2)", 1);
        // lowered by one object of a dictionary, it would be higher for all of them
        t.after("make(DICTIONARY, 1); part(1, 0, 0); attribute(2, ACCESS, 1)");
        t.refused("attribute(1, 1, 2)", -3);
        t.is("attribute(1, 1, 0)", 1);
        t.refused("attribute(2, 1, 1)", -3);
    }
}
