/** The numbers of the document, and objects that many tests begin with. */
final class Kinds {
    static final int NULL = 0;
    static final int NUMBER = 1;
    static final int BOOLEAN = 2;
    static final int NAME = 3;
    static final int STRING = 4;
    static final int ARRAY = 5;
    static final int PACKED = 6;
    static final int DICTIONARY = 7;
    static final int MARK = 8;
    static final int FILE = 9;
    static final int OPERATOR = 10;
    static final int SAVE = 11;

    static final int EXECUTABLE = 0;
    static final int ACCESS = 1;
    static final int GROWS = 2;
    static final int ITS_NUMBER = 3;
    static final int CAPACITY = 4;

    /** Calls that make one object of each kind, so that object k is of kind k. */
    static final String ONE_OF_EACH = "make(NUMBER, 1); make(BOOLEAN, 1); make(NAME, 1); make(STRING, 1);"
        + " make(ARRAY, 1); make(PACKED, 1); make(DICTIONARY, 1); make(MARK, 1); make(FILE, 1); make(OPERATOR, 1);"
        + " make(SAVE, 1)";

    private Kinds() {
    }

    static ObjectRows oneOfEach() {
        return Run.of(ONE_OF_EACH).made();
    }

    /** A STRING with these characters as its bytes. */
    static int text(ObjectRows x, String text) {
        int made = x.make(STRING, text.length());
        for (int i = 0; i < text.length(); i++) {
            x.put(made, i, text.charAt(i));
        }
        return made;
    }

    /** NULLS until there are so many objects. */
    static void fill(ObjectRows x, int objects) {
        while (x.kind(objects - 1) < 0) {
            x.make(NULL, 0);
        }
    }
}
