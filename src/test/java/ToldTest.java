/** Promise 7. */
public final class ToldTest {
    private static final Due due = new Due();

    public static void main(String[] args) {
        ofEachKind();
        numbers();
        capacities();
        wrongNumbers();
        due.end();
    }

    private static void ofEachKind() {
        ObjectRows x = Kinds.oneOfEach();
        int[] access = {0, 0, 0, 0, 3, 3, 2, 3, 0, 3, 0, 0};
        int[] number = {0, 1, 1, 1, 0, 0, 0, 0, 0, 1, 1, 0};
        int[] capacity = {0, 0, 0, 0, 0, 0, 0, 1, 0, 0, 0, 0};
        for (int kind = 0; kind <= Kinds.SAVE; kind++) {
            due.is("EXECUTABLE of kind " + kind, x.told(kind, 0), 0);
            due.is("ACCESS of kind " + kind, x.told(kind, 1), access[kind]);
            due.is("GROWS of kind " + kind, x.told(kind, 2), 0);
            due.is("number of kind " + kind, x.told(kind, 3), number[kind]);
            due.is("capacity of kind " + kind, x.told(kind, 4), capacity[kind]);
        }
        x.make(Kinds.SAVE, 0);
        due.is("number of a second SAVE", x.told(12, 3), 0);
    }

    private static void numbers() {
        ObjectRows x = new ObjectRows();
        int[] values = {0, -1, -2, 7, Integer.MIN_VALUE, Integer.MAX_VALUE};
        int[] kinds = {Kinds.NUMBER, Kinds.FILE, Kinds.OPERATOR};
        for (int kind : kinds) {
            for (int value : values) {
                due.is("number of kind " + kind, x.told(x.make(kind, value), 3), value);
            }
        }
        due.is("NAME 999", x.told(x.make(Kinds.NAME, 999), 3), 999);
        due.is("NAME 0", x.told(x.make(Kinds.NAME, 0), 3), 0);
        due.is("BOOLEAN 1", x.told(x.make(Kinds.BOOLEAN, 1), 3), 1);
        due.is("BOOLEAN 0", x.told(x.make(Kinds.BOOLEAN, 0), 3), 0);
    }

    private static void capacities() {
        ObjectRows x = new ObjectRows();
        for (int capacity = 0; capacity <= 32; capacity++) {
            due.is("capacity", x.told(x.make(Kinds.DICTIONARY, capacity), 4), capacity);
        }
        x.attribute(3, Kinds.GROWS, 1);
        due.is("GROWS", x.told(3, 2), 1);
        due.is("GROWS of another one", x.told(4, 2), 0);
    }

    private static void wrongNumbers() {
        ObjectRows x = new ObjectRows();
        int[] whats = {-1, 5, 6, Integer.MIN_VALUE, Integer.MAX_VALUE};
        for (int what : whats) {
            due.is("told(0, " + what + ")", x.told(0, what), -2);
            due.is("told(1, " + what + ")", x.told(1, what), -1);
            due.is("told(" + what + ", 0)", x.told(what, 0), -1);
        }
    }
}
