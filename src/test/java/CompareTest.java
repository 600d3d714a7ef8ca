/** Promise 9. */
public final class CompareTest {
    private static final Due due = new Due();

    public static void main(String[] args) {
        numbers();
        strings();
        bytesAreNotSigned();
        others();
        access();
        notThere();
        due.end();
    }

    private static void both(ObjectRows x, int a, int b, int want) {
        due.is("compare(" + a + ", " + b + ")", x.compare(a, b), want);
        due.is("compare(" + b + ", " + a + ")", x.compare(b, a), want < 0 ? want : 2 - want);
    }

    private static void numbers() {
        ObjectRows x = new ObjectRows();
        int[] rising = {Integer.MIN_VALUE, -7, -1, 0, 1, 12, Integer.MAX_VALUE};
        for (int k = 0; k < rising.length; k++) {
            x.make(Kinds.NUMBER, rising[k]);
        }
        for (int a = 1; a <= rising.length; a++) {
            both(x, a, a, 1);
            for (int b = a + 1; b <= rising.length; b++) {
                both(x, a, b, 0);
            }
        }
        due.is("another one with the same number", x.compare(3, x.make(Kinds.NUMBER, -1)), 1);
    }

    private static void strings() {
        ObjectRows x = new ObjectRows();
        String[] rising = {"", "A", "AB", "ABC", "AC", "B", "BA", "a"};
        for (String text : rising) {
            Kinds.text(x, text);
        }
        for (int a = 1; a <= rising.length; a++) {
            both(x, a, a, 1);
            for (int b = a + 1; b <= rising.length; b++) {
                both(x, a, b, 0);
            }
        }
        int again = Kinds.text(x, "xAB");
        due.is("a part", x.compare(x.part(again, 1, 2), 3), 1);
    }

    private static void bytesAreNotSigned() {
        ObjectRows x = new ObjectRows();
        Kinds.text(x, "\u00ff");
        Kinds.text(x, "\u0000");
        Kinds.text(x, "\u007f");
        Kinds.text(x, "\u0080");
        both(x, 1, 2, 2);
        both(x, 3, 4, 0);
        both(x, 4, 1, 0);
    }

    private static void others() {
        ObjectRows x = Kinds.oneOfEach();
        for (int a = 0; a <= Kinds.SAVE; a++) {
            for (int b = 0; b <= Kinds.SAVE; b++) {
                boolean fit = a == b && (a == Kinds.NUMBER || a == Kinds.STRING);
                due.is("compare(" + a + ", " + b + ")", x.compare(a, b), fit ? 1 : -3);
            }
        }
    }

    private static void access() {
        ObjectRows x = new ObjectRows();
        Kinds.text(x, "a");
        Kinds.text(x, "b");
        x.attribute(1, Kinds.ACCESS, 2);
        both(x, 1, 2, 0);
        for (int access = 1; access >= 0; access--) {
            x.attribute(1, Kinds.ACCESS, access);
            both(x, 1, 2, -3);
            both(x, 1, 1, -3);
        }
    }

    private static void notThere() {
        ObjectRows x = Kinds.oneOfEach();
        int[] objects = {-1, 12, 100, Integer.MIN_VALUE, Integer.MAX_VALUE};
        for (int object : objects) {
            both(x, Kinds.NUMBER, object, -1);
            both(x, Kinds.NULL, object, -1);
            both(x, object, object, -1);
        }
    }
}
