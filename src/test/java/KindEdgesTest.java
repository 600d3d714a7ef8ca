/** Promise 13, sentence by sentence. */
public final class KindEdgesTest {
    static Sentences sentences() {
        return new Sentences("Promise 13: kind")
            .says("The KIND of an object.", KindEdgesTest::ofAnObject)
            .says("-1 there is none.", KindEdgesTest::none);
    }

    public static void main(String[] args) {
        sentences().run();
    }

    private static void ofAnObject(Trial t) {
        t.after(Kinds.ONE_OF_EACH);
        for (int kind = Kinds.NULL; kind <= Kinds.SAVE; kind++) {
            t.refused("kind(" + kind + ")", kind);
        }
        for (int kind = Kinds.STRING; kind <= Kinds.DICTIONARY; kind++) {
            t.is("part(" + kind + ", 0, 0)", 8 + kind);
            t.is("kind(" + (8 + kind) + ")", kind);
        }
        // whatever ACCESS it has
        t.is("attribute(4, ACCESS, 0)", 1);
        t.is("kind(4)", Kinds.STRING);
        t.after("98 * make(NULL, 0); make(SAVE, 0)");
        t.is("kind(98)", Kinds.NULL);
        t.is("kind(99)", Kinds.SAVE);
        // a number that comes again has the new KIND
        t.after("make(SAVE, 0); make(MARK, 0); restore(1); make(FILE, 0); make(NAME, 0)");
        t.is("kind(1)", Kinds.FILE);
        t.is("kind(2)", Kinds.NAME);
    }

    private static void none(Trial t) {
        t.after("make(MARK, 0)");
        String[] objects = {"-1", "2", "100", "MIN", "MAX"};
        for (String object : objects) {
            t.refused("kind(" + object + ")", -1);
        }
        t.after("99 * make(NULL, 0)");
        t.refused("kind(100)", -1);
        t.is("kind(99)", 0);
        t.after("make(MARK, 0); make(SAVE, 0); make(MARK, 0); restore(2)");
        t.is("kind(1)", Kinds.MARK);
        t.refused("kind(2)", -1);
        t.refused("kind(3)", -1);
    }
}
