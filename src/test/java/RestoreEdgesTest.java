/** Promise 15, sentence by sentence; what is put back is tried in TermsSavesEdgesTest. */
public final class RestoreEdgesTest {
    static Sentences sentences() {
        return new Sentences("Promise 15: restore")
            .says("A SAVE is RESTORED: how many objects there are.", RestoreEdgesTest::howMany)
            .says("-1 there is no such object,", RestoreEdgesTest::noObject)
            .says("-3 it is no SAVE.", RestoreEdgesTest::noSave);
    }

    public static void main(String[] args) {
        sentences().run();
    }

    private static void howMany(Trial t) {
        // the first object that can be one, and the last
        t.after("make(SAVE, 0)");
        t.is("restore(1)", 1);
        t.is("kind(0)", Kinds.NULL);
        t.is("kind(1)", -1);
        t.after("98 * make(NULL, 0); make(SAVE, 0)");
        t.is("restore(99)", 99);
        t.is("kind(98)", Kinds.NULL);
        t.is("kind(99)", -1);
        t.is("make(SAVE, 0)", 99);
        t.after("make(SAVE, 0); 98 * make(NULL, 0)");
        t.is("restore(1)", 1);
        t.is("make(MARK, 0)", 1);
        // one of three
        for (int save = 1; save <= 3; save++) {
            t.after("3 * make(SAVE, 0); make(MARK, 0)");
            t.is("restore(" + save + ")", save);
            t.refused("restore(" + save + ")", -1);
            for (int outer = save - 1; outer >= 1; outer--) {
                t.is("restore(" + outer + ")", outer);
            }
        }
    }

    private static void noObject(Trial t) {
        t.after("make(SAVE, 0); make(SAVE, 0); make(MARK, 0)");
        String[] objects = {"-1", "4", "100", "MIN", "MAX"};
        for (String object : objects) {
            t.refused("restore(" + object + ")", -1);
        }
        t.is("restore(2)", 2);
        t.refused("restore(2)", -1);
        t.refused("restore(3)", -1);
        t.is("restore(1)", 1);
        t.refused("restore(1)", -1);
        t.after("make(SAVE, 0); make(SAVE, 0); restore(1)");
        t.refused("restore(2)", -1);
    }

    private static void noSave(Trial t) {
        t.after(Kinds.ONE_OF_EACH);
        for (int kind = Kinds.NULL; kind < Kinds.SAVE; kind++) {
            t.refused("restore(" + kind + ")", -3);
        }
        t.is("restore(11)", 11);
        // a number that comes again, of another KIND
        t.is("make(NUMBER, 0)", 11);
        t.refused("restore(11)", -3);
        t.after("make(SAVE, 0); make(SAVE, 0); make(MARK, 0); restore(1); make(NUMBER, 1); make(NUMBER, 1)");
        t.refused("restore(1)", -3);
        t.refused("restore(2)", -3);
        t.is("make(SAVE, 0)", 3);
        t.is("restore(3)", 3);
    }
}
