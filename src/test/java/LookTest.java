/** Promise 12. */
public final class LookTest {
    private static final Due due = new Due();

    public static void main(String[] args) {
        found();
        none();
        noKeys();
        access();
        wrongNumbers();
        due.end();
    }

    private static void found() {
        ObjectRows x = new ObjectRows();
        int dict = x.make(Kinds.DICTIONARY, 32);
        for (int k = 0; k < 32; k++) {
            x.entry(dict, x.make(Kinds.NUMBER, k * 7), k + 1);
        }
        for (int k = 0; k < 32; k++) {
            due.is("look(1, " + (k + 2) + ")", x.look(dict, k + 2), k + 1);
        }
        due.is("by another object", x.look(x.part(dict, 0, 0), x.make(Kinds.NUMBER, 21)), 4);
    }

    private static void none() {
        ObjectRows x = Kinds.oneOfEach();
        x.put(Kinds.STRING, 0, '3');
        for (int kind = 1; kind <= Kinds.SAVE; kind++) {
            due.is("KEY of kind " + kind, x.look(Kinds.DICTIONARY, kind), -5);
        }
        x.entry(Kinds.DICTIONARY, Kinds.NUMBER, Kinds.MARK);
        for (int kind = 2; kind <= Kinds.SAVE; kind++) {
            due.is("KEY of kind " + kind, x.look(Kinds.DICTIONARY, kind), -5);
        }
        int other = x.make(Kinds.DICTIONARY, 1);
        due.is("in another dictionary", x.look(other, Kinds.NUMBER), -5);
    }

    private static void noKeys() {
        ObjectRows x = new ObjectRows();
        int dict = x.make(Kinds.DICTIONARY, 5);
        String[] texts = {"", "a", "01", "00", "1000", "4 "};
        for (String text : texts) {
            due.is("KEY '" + text + "'", x.look(dict, Kinds.text(x, text)), -3);
        }
        due.is("NULL", x.look(dict, 0), -3);
        int text = Kinds.text(x, "7");
        x.entry(dict, text, text);
        due.is("a STRING", x.look(dict, text), text);
        x.attribute(text, Kinds.ACCESS, 2);
        due.is("a STRING to be read", x.look(dict, text), text);
        x.attribute(text, Kinds.ACCESS, 1);
        due.is("a STRING that cannot be read", x.look(dict, text), -3);
        due.is("its NAME", x.look(dict, x.make(Kinds.NAME, 7)), text);
    }

    private static void access() {
        ObjectRows x = new ObjectRows();
        int dict = x.make(Kinds.DICTIONARY, 5);
        int other = x.part(dict, 0, 0);
        x.entry(dict, dict, other);
        x.attribute(dict, Kinds.ACCESS, 2);
        due.is("ACCESS 2", x.look(other, dict), other);
        for (int access = 1; access >= 0; access--) {
            x.attribute(dict, Kinds.ACCESS, access);
            due.is("ACCESS " + access, x.look(other, dict), -3);
            due.is("ACCESS " + access, x.look(dict, dict), -3);
        }
    }

    private static void wrongNumbers() {
        ObjectRows x = Kinds.oneOfEach();
        int[] objects = {-1, 12, 100, Integer.MIN_VALUE, Integer.MAX_VALUE};
        for (int object : objects) {
            due.is("no dict", x.look(object, 1), -1);
            due.is("no key", x.look(7, object), -1);
            due.is("no key, no DICTIONARY", x.look(1, object), -1);
        }
        for (int kind = 0; kind <= Kinds.SAVE; kind++) {
            due.is("dict of kind " + kind, x.look(kind, 1), kind == Kinds.DICTIONARY ? -5 : -3);
        }
    }
}
