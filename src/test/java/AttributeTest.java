/** Promise 6. */
public final class AttributeTest {
    private static final Due due = new Due();

    public static void main(String[] args) {
        executable();
        access();
        grows();
        wrongNumbers();
        firstRefusalThatFits();
        due.end();
    }

    private static boolean hasAccess(int kind) {
        return kind >= Kinds.STRING && kind <= Kinds.DICTIONARY || kind == Kinds.FILE;
    }

    private static void executable() {
        ObjectRows x = Kinds.oneOfEach();
        for (int kind = 0; kind <= Kinds.SAVE; kind++) {
            due.is("to 1 of kind " + kind, x.attribute(kind, Kinds.EXECUTABLE, 1), 1);
            due.is("told", x.told(kind, Kinds.EXECUTABLE), 1);
            due.is("to 0 of kind " + kind, x.attribute(kind, Kinds.EXECUTABLE, 0), 1);
            due.is("told", x.told(kind, Kinds.EXECUTABLE), 0);
            due.is("v 2", x.attribute(kind, Kinds.EXECUTABLE, 2), -2);
            due.is("v -1", x.attribute(kind, Kinds.EXECUTABLE, -1), -2);
        }
    }

    private static void access() {
        ObjectRows x = Kinds.oneOfEach();
        for (int kind = 0; kind <= Kinds.SAVE; kind++) {
            if (!hasAccess(kind)) {
                for (int v = 0; v <= 3; v++) {
                    due.is("kind " + kind + " has none", x.attribute(kind, Kinds.ACCESS, v), -3);
                }
                continue;
            }
            int first = kind == Kinds.PACKED ? 2 : 3;
            due.is("first of kind " + kind, x.told(kind, Kinds.ACCESS), first);
            for (int v = first; v >= 0; v--) {
                due.is("v " + v, x.attribute(kind, Kinds.ACCESS, v), 1);
                due.is("told", x.told(kind, Kinds.ACCESS), v);
                due.is("as it is", x.attribute(kind, Kinds.ACCESS, v), 1);
                if (v < 3) {
                    due.is("higher", x.attribute(kind, Kinds.ACCESS, v + 1), -3);
                }
                due.is("told", x.told(kind, Kinds.ACCESS), v);
                due.is("v 4", x.attribute(kind, Kinds.ACCESS, 4), -2);
                due.is("v -1", x.attribute(kind, Kinds.ACCESS, -1), -2);
            }
            due.is("all from none", x.attribute(kind, Kinds.ACCESS, 3), -3);
        }
        ObjectRows y = new ObjectRows();
        y.make(Kinds.STRING, 1);
        due.is("from 3 to 0", y.attribute(1, Kinds.ACCESS, 0), 1);
        due.is("told", y.told(1, Kinds.ACCESS), 0);
    }

    private static void grows() {
        ObjectRows x = Kinds.oneOfEach();
        for (int kind = 0; kind <= Kinds.SAVE; kind++) {
            int want = kind == Kinds.DICTIONARY ? 1 : -3;
            due.is("to 1 of kind " + kind, x.attribute(kind, Kinds.GROWS, 1), want);
            due.is("told", x.told(kind, Kinds.GROWS), want == 1 ? 1 : 0);
            due.is("to 0 of kind " + kind, x.attribute(kind, Kinds.GROWS, 0), want);
            due.is("told", x.told(kind, Kinds.GROWS), 0);
            due.is("v 2", x.attribute(kind, Kinds.GROWS, 2), -2);
            due.is("v -1", x.attribute(kind, Kinds.GROWS, -1), -2);
        }
        x.attribute(Kinds.DICTIONARY, Kinds.ACCESS, 0);
        due.is("with no ACCESS", x.attribute(Kinds.DICTIONARY, Kinds.GROWS, 1), 1);
    }

    private static void wrongNumbers() {
        ObjectRows x = Kinds.oneOfEach();
        int[] objects = {-1, 12, 100, Integer.MIN_VALUE, Integer.MAX_VALUE};
        for (int object : objects) {
            due.is("attribute(" + object + ", 0, 1)", x.attribute(object, 0, 1), -1);
        }
        int[] whats = {-1, 3, 4, Integer.MIN_VALUE, Integer.MAX_VALUE};
        for (int what : whats) {
            due.is("attribute(7, " + what + ", 0)", x.attribute(Kinds.DICTIONARY, what, 0), -2);
        }
    }

    private static void firstRefusalThatFits() {
        ObjectRows x = new ObjectRows();
        due.is("not there, no such what", x.attribute(1, 9, 9), -1);
        due.is("no such v, has none", x.attribute(0, Kinds.ACCESS, 4), -2);
        due.is("no such v, has none", x.attribute(0, Kinds.GROWS, 2), -2);
        due.is("has none", x.attribute(0, Kinds.GROWS, 1), -3);
    }
}
