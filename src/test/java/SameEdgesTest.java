/** Promise 8, sentence by sentence; which objects are the same is tried in TermsSameEdgesTest. */
public final class SameEdgesTest {
    static Sentences sentences() {
        return new Sentences("Promise 8: same")
            .says("Whether two objects are the same.", SameEdgesTest::whether)
            .says("False when one is not there.", SameEdgesTest::notThere);
    }

    public static void main(String[] args) {
        sentences().run();
    }

    private static void whether(Trial t) {
        t.after(Kinds.ONE_OF_EACH);
        for (int a = Kinds.NULL; a <= Kinds.SAVE; a++) {
            for (int b = Kinds.NULL; b <= Kinds.SAVE; b++) {
                t.is("same(" + a + ", " + b + ")", a == b ? 1 : 0);
            }
        }
        // both ways round, with the hundredth too
        t.after(Run.text(1, "42"), "97 * make(MARK, 0); make(NAME, 42)");
        t.is("same(1, 99)", 1);
        t.is("same(99, 1)", 1);
        t.is("same(98, 99)", 0);
        // it only asks
        t.refused("same(1, 99)", 1);
        t.refused("same(1, 98)", 0);
    }

    private static void notThere(Trial t) {
        t.after("make(MARK, 0)");
        String[] objects = {"-1", "2", "100", "MIN", "MAX"};
        for (String object : objects) {
            t.refused("same(" + object + ", 1)", 0);
            t.refused("same(1, " + object + ")", 0);
            t.refused("same(" + object + ", 0)", 0);
            t.refused("same(0, " + object + ")", 0);
            t.refused("same(" + object + ", " + object + ")", 0);
        }
        t.is("same(1, 1)", 1);
        t.after("make(MARK, 0); make(SAVE, 0); make(MARK, 0)");
        t.is("same(1, 3)", 1);
        t.is("restore(2)", 2);
        t.is("same(1, 3)", 0);
        t.is("same(3, 3)", 0);
        t.is("same(2, 2)", 0);
        t.is("same(1, 1)", 1);
    }
}
