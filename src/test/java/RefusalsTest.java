/** Refusals, and calls that only ask, change nothing. */
public final class RefusalsTest {
    private static final Due due = new Due();
    private static final int MAKE = 0;
    private static final int PUT = 1;
    private static final int GET = 2;
    private static final int PART = 3;
    private static final int ATTRIBUTE = 4;
    private static final int TOLD = 5;
    private static final int SAME = 6;
    private static final int COMPARE = 7;
    private static final int LENGTH = 8;
    private static final int ENTRY = 9;
    private static final int LOOK = 10;
    private static final int KIND = 11;
    private static final int USED = 12;
    private static final int RESTORE = 13;

    /** The answer of a get that throws. */
    private static final int THROWN = -100;

    /** A call, its three arguments and its answer. */
    private static final int[][] CALLS = {
        {MAKE, 12, 0, 0, -1}, {MAKE, -1, 0, 0, -1}, {MAKE, 4, 65, 0, -2}, {MAKE, 6, 14, 0, -2}, {MAKE, 7, 33, 0, -2},
        {MAKE, 11, 0, 0, -4}, {PUT, 13, 0, 0, -1}, {PUT, 5, 0, 13, -1}, {PUT, 4, 1, 0, -2}, {PUT, 4, 0, 256, -2},
        {PUT, 5, 1, 0, -2}, {PUT, 6, 0, 0, -3}, {PUT, 9, 0, 0, -3}, {GET, 13, 0, 0, -1}, {GET, 7, 0, 0, -3},
        {GET, 5, 1, 0, THROWN}, {PART, 13, 0, 0, -1}, {PART, 5, 0, 2, -2}, {PART, 9, 0, 0, -3},
        {ATTRIBUTE, 13, 0, 1, -1}, {ATTRIBUTE, 5, 3, 1, -2}, {ATTRIBUTE, 5, 1, 4, -2}, {ATTRIBUTE, 6, 1, 3, -3},
        {ATTRIBUTE, 5, 2, 1, -3}, {TOLD, 13, 0, 0, -1}, {TOLD, 5, 5, 0, -2}, {TOLD, 5, 1, 0, 3},
        {SAME, 13, 0, 0, 0}, {SAME, 4, 4, 0, 1}, {COMPARE, 13, 0, 0, -1}, {COMPARE, 1, 1, 0, 1}, {COMPARE, 2, 2, 0, -3},
        {LENGTH, 13, 0, 0, -1}, {LENGTH, 8, 0, 0, -3}, {LENGTH, 7, 0, 0, 1}, {ENTRY, 13, 1, 1, -1}, {ENTRY, 7, 13, 1, -1},
        {ENTRY, 7, 1, 13, -1}, {ENTRY, 5, 1, 1, -3}, {ENTRY, 7, 0, 1, -3}, {ENTRY, 7, 4, 1, -3}, {ENTRY, 7, 2, 1, -4},
        {LOOK, 13, 1, 0, -1}, {LOOK, 5, 1, 0, -3}, {LOOK, 7, 2, 0, -5}, {LOOK, 7, 1, 0, 3}, {KIND, 13, 0, 0, -1},
        {USED, 0, 0, 0, 133}, {RESTORE, 13, 0, 0, -1}, {RESTORE, 9, 0, 0, -3},
    };

    public static void main(String[] args) {
        for (int[] call : CALLS) {
            ObjectRows x = state();
            String name = "call " + call[0] + " (" + call[1] + ", " + call[2] + ", " + call[3] + ")";
            due.is(name, answer(x, call), call[4]);
            String seen = seen(x);
            String before = seen(state());
            due.yes(name + " changed nothing: " + before + ", then " + seen, before.equals(seen));
        }
        fullOfObjects();
        due.end();
    }

    /** Objects 0 .. 12 with three SAVES, and a DICTIONARY that is full. */
    private static ObjectRows state() {
        ObjectRows x = new ObjectRows();
        x.make(Kinds.NUMBER, -2);
        x.make(Kinds.BOOLEAN, 1);
        x.make(Kinds.NAME, 42);
        x.make(Kinds.STRING, 1);
        x.make(Kinds.ARRAY, 1);
        x.make(Kinds.PACKED, 1);
        x.make(Kinds.DICTIONARY, 1);
        x.make(Kinds.MARK, 0);
        x.make(Kinds.FILE, 3);
        x.make(Kinds.SAVE, 0);
        x.make(Kinds.SAVE, 0);
        x.make(Kinds.SAVE, 0);
        x.entry(7, 1, 3);
        x.put(5, 0, 5);
        x.attribute(3, Kinds.EXECUTABLE, 1);
        return x;
    }

    private static int answer(ObjectRows x, int[] call) {
        int a = call[1];
        int b = call[2];
        int c = call[3];
        switch (call[0]) {
            case MAKE: return x.make(a, b);
            case PUT: return x.put(a, b, c);
            case GET: return got(x, a, b);
            case PART: return x.part(a, b, c);
            case ATTRIBUTE: return x.attribute(a, b, c);
            case TOLD: return x.told(a, b);
            case SAME: return x.same(a, b) ? 1 : 0;
            case COMPARE: return x.compare(a, b);
            case LENGTH: return x.length(a);
            case ENTRY: return x.entry(a, b, c);
            case LOOK: return x.look(a, b);
            case KIND: return x.kind(a);
            case USED: return x.used();
            default: return x.restore(a);
        }
    }

    private static int got(ObjectRows x, int object, int i) {
        try {
            return x.get(object, i);
        } catch (ArrayIndexOutOfBoundsException e) {
            return THROWN;
        }
    }

    /** What can be asked of all objects, in fewer calls than an object has. */
    private static String seen(ObjectRows x) {
        StringBuilder text = new StringBuilder();
        text.append(x.used());
        for (int object = 0; object <= 13; object++) {
            text.append(' ').append(x.kind(object)).append(',').append(x.length(object));
            for (int what = 0; what <= 4; what++) {
                text.append(',').append(x.told(object, what));
            }
            text.append(',').append(got(x, object, 0)).append(',').append(got(x, object, 1));
            text.append(',').append(x.look(7, object));
            text.append(',').append(x.compare(1, object));
            for (int other = 0; other <= object; other++) {
                text.append(x.same(object, other) ? '=' : '/');
            }
        }
        text.append(' ').append(x.make(Kinds.SAVE, 0)).append(',').append(x.make(Kinds.MARK, 0));
        text.append(' ').append(x.restore(12)).append(',').append(x.restore(10)).append(',').append(x.used());
        return text.toString();
    }

    private static void fullOfObjects() {
        ObjectRows x = new ObjectRows();
        x.make(Kinds.STRING, 1);
        Kinds.fill(x, 100);
        for (int kind = 0; kind <= Kinds.SAVE; kind++) {
            due.is("make", x.make(kind, 1), -4);
        }
        due.is("part", x.part(1, 0, 1), -4);
        due.is("used()", x.used(), 801);
        due.is("kind(99)", x.kind(99), Kinds.NULL);
        due.is("kind(100)", x.kind(100), -1);
    }
}
