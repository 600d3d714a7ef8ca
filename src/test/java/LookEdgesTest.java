/** Promise 12, sentence by sentence. */
public final class LookEdgesTest {
    static Sentences sentences() {
        return new Sentences("Promise 12: look")
            .says("The object of the ENTRY with the same KEY.", LookEdgesTest::theObject)
            .says("-1, -3 (ACCESS below 2) likewise;", LookEdgesTest::likewise)
            .says("-5 there is none.", LookEdgesTest::none);
    }

    public static void main(String[] args) {
        sentences().run();
    }

    private static void theObject(Trial t) {
        t.after("make(DICTIONARY, 32); part(1, 0, 0)");
        for (int key = 3; key <= 34; key++) {
            t.is("make(OPERATOR, " + key + ")", key);
            t.is("entry(1, " + key + ", " + (key - 3) + ")", 1);
        }
        t.is("make(OPERATOR, 3)", 35);
        t.is("make(OPERATOR, 34)", 36);
        t.is("look(1, 35)", 0);
        t.is("look(1, 36)", 31);
        t.is("look(2, 3)", 0);
        t.is("look(2, 34)", 31);
        // a NAME and a STRING, either as KEY
        t.after("make(DICTIONARY, 2); make(NAME, 0)", Run.text(3, "0"), "make(NAME, 999)", Run.text(5, "999"));
        t.is("entry(1, 2, 4)", 1);
        t.is("entry(1, 5, 3)", 1);
        t.is("look(1, 3)", 4);
        t.is("look(1, 4)", 3);
        t.is("look(1, 2)", 4);
        t.is("look(1, 5)", 3);
    }

    private static void likewise(Trial t) {
        t.after("make(DICTIONARY, 1); entry(1, 1, 1); make(MARK, 0)", Run.text(3, "x"));
        String[] objects = {"-1", "4", "100", "MIN", "MAX"};
        for (String object : objects) {
            t.refused("look(" + object + ", 1)", -1);
            t.refused("look(1, " + object + ")", -1);
            t.refused("look(2, " + object + ")", -1);
            t.refused("look(" + object + ", 0)", -1);
        }
        // no KEY
        t.refused("look(1, 0)", -3);
        t.refused("look(1, 3)", -3);
        t.is("look(1, 1)", 1);
        t.is("attribute(1, ACCESS, 2)", 1);
        t.is("look(1, 1)", 1);
        t.refused("look(1, 2)", -5);
        for (int access = 1; access >= 0; access--) {
            t.is("attribute(1, ACCESS, " + access + ")", 1);
            t.refused("look(1, 1)", -3);
            t.refused("look(1, 2)", -3);
            t.refused("look(1, 0)", -3);
            t.refused("look(1, 4)", -1);
        }
        // no DICTIONARY
        t.after(Kinds.ONE_OF_EACH);
        for (int kind = Kinds.NULL; kind <= Kinds.SAVE; kind++) {
            if (kind != Kinds.DICTIONARY) {
                t.refused("look(" + kind + ", 1)", -3);
                t.refused("look(" + kind + ", 0)", -3);
            }
        }
        // a STRING that is a NAME, with ACCESS 2 and below
        t.after("make(DICTIONARY, 1)", Run.text(2, "7"), "entry(1, 2, 2); attribute(2, ACCESS, 2)");
        t.is("look(1, 2)", 2);
        t.is("attribute(2, ACCESS, 1)", 1);
        t.refused("look(1, 2)", -3);
    }

    private static void none(Trial t) {
        t.after(Kinds.ONE_OF_EACH, "put(4, 0, 48)");
        for (int key = Kinds.NUMBER; key <= Kinds.SAVE; key++) {
            t.refused("look(7, " + key + ")", -5);
        }
        t.is("entry(7, 1, 0)", 1);
        t.is("look(7, 1)", 0);
        for (int key = Kinds.BOOLEAN; key <= Kinds.SAVE; key++) {
            t.refused("look(7, " + key + ")", -5);
        }
        // without a place, and of a full one the KEY that it had no room for
        t.after("make(DICTIONARY, 0); make(MARK, 0)");
        t.refused("look(1, 2)", -5);
        t.refused("entry(1, 2, 2)", -4);
        t.refused("look(1, 2)", -5);
        // another dictionary has it
        t.after("make(DICTIONARY, 1); make(DICTIONARY, 1); entry(1, 1, 1)");
        t.refused("look(2, 1)", -5);
        t.is("look(1, 1)", 1);
    }
}
