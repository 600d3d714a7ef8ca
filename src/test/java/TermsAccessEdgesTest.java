/** The Terms ACCESS and STORES, sentence by sentence. */
public final class TermsAccessEdgesTest {
    static Sentences sentences() {
        return new Sentences("Terms")
            .says("STRINGS, ARRAYS, PACKED ones, FILES have an ACCESS of their own,", TermsAccessEdgesTest::ofTheirOwn)
            .says("DICTIONARIES one that all objects of the same dictionary share:", TermsAccessEdgesTest::shared)
            .says("3 all, 2 reading, 1 executing, 0 none.", TermsAccessEdgesTest::steps)
            .says("It is 3 at first, 2 of PACKED ones.", TermsAccessEdgesTest::atFirst)
            .says("STORES: a STRING, ARRAY, PACKED one is a view of a store, so many elements from a place on;",
                TermsAccessEdgesTest::views)
            .says("what is put by one view is seen by all of that store.", TermsAccessEdgesTest::seenByAll);
    }

    public static void main(String[] args) {
        sentences().run();
    }

    private static void ofTheirOwn(Trial t) {
        for (int kind = Kinds.STRING; kind <= Kinds.PACKED; kind++) {
            int first = kind == Kinds.PACKED ? 2 : 3;
            t.after("make(" + kind + ", 1); part(1, 0, 1); part(2, 0, 1)");
            t.is("attribute(2, ACCESS, 1)", 1);
            t.is("told(1, ACCESS)", first);
            t.is("told(2, ACCESS)", 1);
            t.is("told(3, ACCESS)", first);
            t.is("get(1, 0)", 0);
            t.refused("get(2, 0)", -3);
            t.is("get(3, 0)", 0);
            t.is("attribute(1, ACCESS, 0)", 1);
            t.is("told(2, ACCESS)", 1);
            t.is("told(3, ACCESS)", first);
        }
        t.after("make(FILE, 5); make(FILE, 5); attribute(1, ACCESS, 0)");
        t.is("told(1, ACCESS)", 0);
        t.is("told(2, ACCESS)", 3);
        t.is("same(1, 2)", 1);
        // the other KINDS have none, not even 0 to set
        t.after(Kinds.ONE_OF_EACH);
        for (int kind = Kinds.NULL; kind <= Kinds.SAVE; kind++) {
            if (kind < Kinds.STRING || kind > Kinds.DICTIONARY && kind != Kinds.FILE) {
                t.is("told(" + kind + ", ACCESS)", 0);
                t.refused("attribute(" + kind + ", ACCESS, 0)", -3);
            }
        }
    }

    private static void shared(Trial t) {
        for (int lowered = 1; lowered <= 3; lowered++) {
            t.after("make(DICTIONARY, 1); part(1, 0, 0); part(2, 0, 0); make(DICTIONARY, 1); entry(1, 1, 1)");
            for (int access = 3; access >= 0; access--) {
                t.is("attribute(" + lowered + ", ACCESS, " + access + ")", 1);
                for (int object = 1; object <= 3; object++) {
                    t.is("told(" + object + ", ACCESS)", access);
                    t.refused("look(" + object + ", 1)", access >= 2 ? 1 : -3);
                }
                t.is("told(4, ACCESS)", 3);
            }
            t.refused("attribute(1, ACCESS, 1)", -3);
            t.refused("attribute(3, ACCESS, 1)", -3);
        }
    }

    private static void steps(Trial t) {
        for (int access = 3; access >= 0; access--) {
            t.after("make(STRING, 1); put(1, 0, 48); make(ARRAY, 1); make(DICTIONARY, 2); make(MARK, 0); entry(3, 4, 4)",
                "make(NAME, 0); make(PACKED, 1)");
            String[] objects = {"1", "2", "3", "6"};
            for (String object : objects) {
                if (access < 3) {
                    t.is("attribute(" + object + ", ACCESS, " + access + ")", 1);
                }
            }
            boolean all = access == 3;
            boolean reading = access >= 2;
            answers(t, "put(1, 0, 48)", all ? 1 : -3);
            answers(t, "put(2, 0, 0)", all ? 1 : -3);
            answers(t, "entry(3, 4, 4)", all ? 1 : -3);
            answers(t, "get(1, 0)", reading ? 48 : -3);
            answers(t, "get(2, 0)", reading ? 0 : -3);
            answers(t, "get(6, 0)", reading ? 5 : -3);
            answers(t, "look(3, 4)", reading ? 4 : -3);
            answers(t, "compare(1, 1)", reading ? 1 : -3);
            answers(t, "same(1, 1)", reading ? 1 : 0);
            answers(t, "same(1, 5)", reading ? 1 : 0);
            answers(t, "same(2, 2)", 1);
            answers(t, "length(1)", 1);
            answers(t, "told(3, CAPACITY)", 2);
            answers(t, "part(1, 0, 1)", reading ? 7 : -3);
            answers(t, "part(2, 0, 1)", reading ? 8 : -3);
            answers(t, "part(3, 0, 1)", reading ? 9 : -3);
            answers(t, "part(6, 0, 1)", reading ? 10 : -3);
        }
    }

    private static void answers(Trial t, String call, int want) {
        if (want < 0) {
            t.refused(call, want);
        } else {
            t.is(call, want);
        }
    }

    private static void atFirst(Trial t) {
        t.after(Kinds.ONE_OF_EACH);
        t.is("told(4, ACCESS)", 3);
        t.is("told(5, ACCESS)", 3);
        t.is("told(6, ACCESS)", 2);
        t.is("told(7, ACCESS)", 3);
        t.is("told(9, ACCESS)", 3);
        t.refused("attribute(6, ACCESS, 3)", -3);
        // also without elements, and where objects with less had their numbers
        t.after("make(SAVE, 0); make(STRING, 0); make(ARRAY, 0); make(FILE, 0); make(DICTIONARY, 0)",
            "attribute(2, ACCESS, 0); attribute(3, ACCESS, 0); attribute(4, ACCESS, 0); attribute(5, ACCESS, 0)", "restore(1)");
        t.is("make(FILE, 0)", 1);
        t.is("make(DICTIONARY, 0)", 2);
        t.is("make(STRING, 0)", 3);
        t.is("make(PACKED, 0)", 4);
        t.is("make(ARRAY, 0)", 5);
        int[] access = {3, 3, 3, 2, 3};
        for (int object = 1; object <= 5; object++) {
            t.is("told(" + object + ", ACCESS)", access[object - 1]);
        }
    }

    private static void views(Trial t) {
        t.after("make(ARRAY, 4); put(1, 0, 0); put(1, 1, 1); make(PACKED, 2); put(1, 2, 2); make(MARK, 0); put(1, 3, 3)",
            "part(1, 1, 3); part(4, 1, 2); part(5, 1, 1); part(6, 1, 0)");
        int[][] views = {{0, 1, 2, 3}, {1, 2, 3}, {2, 3}, {3}, {}};
        int[] objects = {1, 4, 5, 6, 7};
        for (int k = 0; k < objects.length; k++) {
            int n = views[k].length;
            t.is("length(" + objects[k] + ")", n);
            t.thrown("get(" + objects[k] + ", -1)");
            for (int i = 0; i < n; i++) {
                t.is("get(" + objects[k] + ", " + i + ")", views[k][i]);
            }
            t.thrown("get(" + objects[k] + ", " + n + ")");
            t.refused("part(" + objects[k] + ", 0, " + (n + 1) + ")", -2);
            t.refused("part(" + objects[k] + ", -1, 1)", -2);
        }
        t.is("part(2, 1, 1)", 8);
        t.is("get(8, 0)", 1);
        t.thrown("get(8, -1)");
        t.thrown("get(8, 1)");
    }

    private static void seenByAll(Trial t) {
        String[] kinds = {"STRING", "ARRAY"};
        for (String kind : kinds) {
            // three stores side by side; 4 and 5 are views of the middle one
            t.after("make(" + kind + ", 3); make(" + kind + ", 3); make(" + kind + ", 3); part(2, 0, 2); part(2, 1, 2)");
            t.is("put(4, 0, 1)", 1);
            t.is("put(4, 1, 2)", 1);
            t.is("put(5, 1, 3)", 1);
            int[][] seen = {{0, 0, 0}, {1, 2, 3}, {0, 0, 0}, {1, 2}, {2, 3}};
            holds(t, seen);
            t.is("put(5, 0, 4)", 1);
            t.is("put(2, 0, 5)", 1);
            t.is("put(1, 2, 1)", 1);
            t.is("put(3, 0, 1)", 1);
            int[][] later = {{0, 0, 1}, {5, 4, 3}, {1, 0, 0}, {5, 4}, {4, 3}};
            holds(t, later);
            // by a view whose own ACCESS is 3, seen by one that may only read
            t.is("attribute(2, ACCESS, 2)", 1);
            t.is("put(4, 0, 2)", 1);
            t.is("get(2, 0)", 2);
        }
    }

    private static void holds(Trial t, int[][] seen) {
        for (int object = 1; object <= seen.length; object++) {
            for (int i = 0; i < seen[object - 1].length; i++) {
                t.is("get(" + object + ", " + i + ")", seen[object - 1][i]);
            }
        }
    }
}
