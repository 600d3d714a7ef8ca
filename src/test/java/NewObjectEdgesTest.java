/** Promise 1, sentence by sentence. */
public final class NewObjectEdgesTest {
    static Sentences sentences() {
        return new Sentences("Promise 1: A new object")
            .says("A NULL, object 0.", NewObjectEdgesTest::oneNull);
    }

    public static void main(String[] args) {
        sentences().run();
    }

    private static void oneNull(Trial t) {
        t.is("kind(0)", Kinds.NULL);
        t.is("kind(1)", -1);
        t.is("kind(-1)", -1);
        for (int what = Kinds.EXECUTABLE; what <= Kinds.CAPACITY; what++) {
            t.is("told(0, " + what + ")", 0);
        }
        t.is("used()", 8);
        t.refused("restore(0)", -3);
        t.refused("restore(1)", -1);
        t.is("make(NULL, 0)", 1);
        t.is("same(0, 1)", 1);
        // what was done to another object does not show in a new one
        t.after("attribute(0, EXECUTABLE, 1); make(NUMBER, 7)");
        t.after();
        t.is("told(0, EXECUTABLE)", 0);
        t.is("kind(1)", -1);
        t.is("used()", 8);
    }
}
