/** The Term THE SAME, sentence by sentence. */
public final class TermsSameEdgesTest {
    static Sentences sentences() {
        return new Sentences("Terms")
            .says("THE SAME are: NUMBERS, BOOLEANS, NAMES, FILES, OPERATORS of one KIND with the same number;",
                TermsSameEdgesTest::sameNumber)
            .says("NULLS; MARKS;", TermsSameEdgesTest::nullsAndMarks)
            .says("STRINGS with the same bytes,", TermsSameEdgesTest::sameBytes)
            .says("and a STRING and a NAME if the bytes are the NAME's number in tens (48 .. 57, none too many);",
                TermsSameEdgesTest::stringAndName)
            .says("views of one KIND, ARRAY or PACKED, on the same elements of the same store,",
                TermsSameEdgesTest::sameElements)
            .says("and any two of these KINDS without elements;", TermsSameEdgesTest::withoutElements)
            .says("objects of the same dictionary;", TermsSameEdgesTest::sameDictionary)
            .says("a SAVE and itself.", TermsSameEdgesTest::saveAndItself)
            .says("A STRING whose ACCESS is below 2 is the same as nothing.", TermsSameEdgesTest::unreadable);
    }

    public static void main(String[] args) {
        sentences().run();
    }

    /** Objects with equal letters are the same, both ways round; object 1 has the first letter. */
    private static void classes(Trial t, String letters) {
        for (int a = 0; a < letters.length(); a++) {
            for (int b = 0; b < letters.length(); b++) {
                int want = letters.charAt(a) == letters.charAt(b) ? 1 : 0;
                t.is("same(" + (a + 1) + ", " + (b + 1) + ")", want);
            }
        }
    }

    private static void sameNumber(Trial t) {
        t.after("make(NUMBER, 1); make(BOOLEAN, 1); make(NAME, 1); make(FILE, 1); make(OPERATOR, 1)",
            "make(NUMBER, 1); make(BOOLEAN, 1); make(NAME, 1); make(FILE, 1); make(OPERATOR, 1)",
            "make(NUMBER, 0); make(BOOLEAN, 0); make(NAME, 0); make(FILE, 0); make(OPERATOR, 0)");
        classes(t, "abcdeabcdefghij");
        String[] kinds = {"NUMBER", "FILE", "OPERATOR"};
        for (String kind : kinds) {
            String made = "make(" + kind + ", MIN); make(" + kind + ", MAX); make(" + kind + ", -1); make(" + kind + ", 0);";
            t.after(made, made);
            classes(t, "abcdabcd");
        }
        t.after("make(NAME, 999); make(NAME, 99); make(NAME, 999)");
        classes(t, "aba");
        // whatever their attributes
        t.after("make(FILE, 1); make(FILE, 1); attribute(1, ACCESS, 0); attribute(1, EXECUTABLE, 1)");
        classes(t, "aa");
    }

    private static void nullsAndMarks(Trial t) {
        t.after("make(NULL, 1); make(MARK, 1); make(NULL, 2); make(MARK, 2); make(NUMBER, 0); make(BOOLEAN, 0)");
        classes(t, "ababcd");
        t.is("same(0, 0)", 1);
        t.is("same(0, 1)", 1);
        t.is("same(0, 2)", 0);
        t.is("attribute(1, EXECUTABLE, 1)", 1);
        t.is("same(0, 1)", 1);
    }

    private static void sameBytes(Trial t) {
        t.after(Run.text(1, ""), Run.text(2, "\0"), Run.text(3, ""), Run.text(4, "ab"), Run.text(5, "abc"),
            Run.text(6, "ab"), Run.text(7, "ac"), Run.text(8, "bb"), Run.text(9, "\0\0"), Run.text(10, "\u00ff"));
        classes(t, "abacdcefgh");
        // 64 of them that differ in the last or the first
        t.after("3 * make(STRING, 64)");
        classes(t, "aaa");
        t.is("put(1, 63, 1)", 1);
        t.is("put(2, 0, 1)", 1);
        classes(t, "abc");
        t.is("put(3, 63, 1)", 1);
        classes(t, "aba");
        // in one store or in another
        t.after(Run.text(1, "abab"), "part(1, 0, 2); part(1, 2, 2); part(1, 1, 2)", Run.text(5, "ab"));
        classes(t, "abbcb");
        // not as other KINDS
        t.after("make(STRING, 0); make(ARRAY, 0); make(PACKED, 0); make(STRING, 1); make(NUMBER, 0); make(NULL, 0)");
        classes(t, "abbcde");
    }

    private static void stringAndName(Trial t) {
        int[] names = {0, 7, 9, 10, 42, 99, 100, 999};
        for (int name : names) {
            String digits = Integer.toString(name);
            t.after("make(NAME, " + name + ")", Run.text(2, digits), Run.text(3, "0" + digits), Run.text(4, digits + "0"),
                Run.text(5, digits + "\0"), Run.text(6, ""), Run.text(7, digits.substring(1)));
            t.is("same(1, 2)", 1);
            t.is("same(2, 1)", 1);
            for (int other = 3; other <= 7; other++) {
                t.is("same(1, " + other + ")", 0);
                t.is("same(" + other + ", 1)", 0);
            }
        }
        // all digits, and the bytes beside them
        for (int name = 0; name <= 9; name++) {
            t.after("make(NAME, " + name + "); make(STRING, 1)");
            for (int b = 46; b <= 59; b++) {
                t.is("put(2, 0, " + b + ")", 1);
                t.is("same(1, 2)", b == 48 + name ? 1 : 0);
            }
        }
        // none too many: 00, 000, 007, and more digits than a NAME has
        t.after("make(NAME, 0); make(NAME, 7); make(NAME, 100)", Run.text(4, "00"), Run.text(5, "000"), Run.text(6, "007"),
            Run.text(7, "07"), Run.text(8, "1000"), Run.text(9, "0100"), Run.text(10, "4294967296"), Run.text(11, "-7"));
        for (int name = 1; name <= 3; name++) {
            for (int string = 4; string <= 11; string++) {
                t.is("same(" + name + ", " + string + ")", 0);
            }
        }
        besidesDigits(t);
        // a NUMBER is no NAME
        t.after("make(NUMBER, 7); make(OPERATOR, 7)", Run.text(3, "7"));
        classes(t, "abc");
    }

    /** In every place of a STRING of three, 47 and 58 are no digits, though they would sum up to the same. */
    private static void besidesDigits(Trial t) {
        int[][] bytes = {{47, 58, 48}, {49, 47, 58}, {48, 58, 48}, {49, 58, 48}, {49, 49, 58}, {50, 47, 48}, {49, 57, 58}};
        t.after("make(NAME, 0); make(NAME, 100); make(NAME, 200); make(NAME, 120); make(NAME, 190); make(STRING, 3)");
        for (int[] three : bytes) {
            for (int i = 0; i < 3; i++) {
                t.is("put(6, " + i + ", " + three[i] + ")", 1);
            }
            for (int name = 1; name <= 5; name++) {
                t.is("same(" + name + ", 6)", 0);
            }
        }
    }

    private static void sameElements(Trial t) {
        String[] kinds = {"ARRAY", "PACKED"};
        for (String kind : kinds) {
            t.after("2 * make(MARK, 0); make(" + kind + ", 3); part(3, 0, 3); part(3, 0, 2); part(3, 1, 2); part(6, 0, 2)",
                "part(3, 1, 1); part(5, 1, 1); part(3, 2, 1); part(6, 1, 1)");
            classes(t, "aabbcddeeff");
        }
        // the same elements of another store
        t.after("make(ARRAY, 1); make(ARRAY, 1); make(PACKED, 1); make(PACKED, 1)");
        classes(t, "abcd");
        t.after("make(MARK, 0); make(PACKED, 2); part(2, 0, 1); make(ARRAY, 2); part(4, 0, 1); put(4, 1, 1)");
        classes(t, "abcde");
        // whatever they hold, and whatever their attributes
        t.after("make(ARRAY, 1); part(1, 0, 1); put(2, 0, 2); attribute(2, ACCESS, 0); attribute(2, EXECUTABLE, 1)");
        classes(t, "aa");
    }

    private static void withoutElements(Trial t) {
        t.after("make(ARRAY, 0); make(PACKED, 0); make(ARRAY, 0); make(PACKED, 0); make(ARRAY, 1); make(PACKED, 1)",
            "part(5, 0, 0); part(5, 1, 0); part(6, 0, 0); part(6, 1, 0)");
        classes(t, "aaaabcaaaa");
        t.is("attribute(1, ACCESS, 0)", 1);
        t.is("attribute(4, ACCESS, 0)", 1);
        t.is("same(1, 4)", 1);
        // these KINDS alone
        t.after("make(ARRAY, 0); make(STRING, 0); make(DICTIONARY, 0); make(NULL, 0); make(MARK, 0)");
        classes(t, "abcde");
    }

    private static void sameDictionary(Trial t) {
        t.after("make(DICTIONARY, 0); make(DICTIONARY, 0); part(1, 0, 0); part(3, 0, 0); part(2, 0, 0)");
        classes(t, "abaab");
        // whatever it has, and whatever the attributes
        t.is("attribute(3, EXECUTABLE, 1)", 1);
        t.is("attribute(3, GROWS, 1)", 1);
        t.is("entry(4, 1, 1)", 1);
        t.is("attribute(1, ACCESS, 0)", 1);
        classes(t, "abaab");
    }

    private static void saveAndItself(Trial t) {
        t.after("make(SAVE, 0); make(SAVE, 0); make(SAVE, 1)");
        classes(t, "abc");
        t.is("restore(2)", 2);
        t.is("same(1, 1)", 1);
        t.is("make(SAVE, 0)", 2);
        classes(t, "ab");
    }

    private static void unreadable(Trial t) {
        for (int access = 1; access >= 0; access--) {
            t.after(Run.text(1, "7"), "part(1, 0, 1); make(NAME, 7)", Run.text(4, "7"), "make(STRING, 0)");
            classes(t, "aaaab");
            t.is("attribute(1, ACCESS, 2)", 1);
            t.is("attribute(5, ACCESS, 2)", 1);
            classes(t, "aaaab");
            t.is("attribute(1, ACCESS, " + access + ")", 1);
            for (int other = 0; other <= 5; other++) {
                t.is("same(1, " + other + ")", 0);
                t.is("same(" + other + ", 1)", 0);
            }
            t.is("same(2, 3)", 1);
            t.is("same(2, 4)", 1);
            // two of them
            t.is("attribute(4, ACCESS, " + access + ")", 1);
            t.is("same(1, 4)", 0);
            t.is("attribute(5, ACCESS, " + access + ")", 1);
            t.is("same(5, 5)", 0);
        }
    }
}
