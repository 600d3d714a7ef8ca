/** Promise 13. */
public final class KindTest {
    public static void main(String[] args) {
        Due due = new Due();
        ObjectRows x = Kinds.oneOfEach();
        for (int kind = 0; kind <= Kinds.SAVE; kind++) {
            due.is("kind(" + kind + ")", x.kind(kind), kind);
        }
        int[] objects = {-1, 12, 99, 100, 101, Integer.MIN_VALUE, Integer.MAX_VALUE};
        for (int object : objects) {
            due.is("kind(" + object + ")", x.kind(object), -1);
        }
        for (int kind = Kinds.STRING; kind <= Kinds.DICTIONARY; kind++) {
            due.is("kind of a part", x.kind(x.part(kind, 0, 1)), kind);
        }
        Kinds.fill(x, 100);
        due.is("kind(99)", x.kind(99), Kinds.NULL);
        due.is("kind(100)", x.kind(100), -1);
        x.restore(Kinds.SAVE);
        due.is("kind(10)", x.kind(10), Kinds.OPERATOR);
        due.is("kind(11)", x.kind(11), -1);
        x.make(Kinds.MARK, 0);
        due.is("kind(11)", x.kind(11), Kinds.MARK);
        due.end();
    }
}
