/** Counts the answers of a test that are not as due. */
final class Due {
    private int answers;
    private int wrong;

    void is(String call, long got, long want) {
        answers++;
        if (got != want) {
            tell(call + " answered " + got + ", due is " + want);
        }
    }

    void yes(String call, boolean got) {
        is(call, got ? 1 : 0, 1);
    }

    void no(String call, boolean got) {
        is(call, got ? 1 : 0, 0);
    }

    /** The call get(object, i) throws the very exception that the document names. */
    void outside(ObjectRows x, int object, int i) {
        answers++;
        String call = "get(" + object + ", " + i + ")";
        try {
            tell(call + " answered " + x.get(object, i) + ", due is a throw");
        } catch (RuntimeException e) {
            if (e.getClass() != ArrayIndexOutOfBoundsException.class) {
                tell(call + " threw " + e.getClass().getName());
            }
        }
    }

    void tell(String what) {
        wrong++;
        System.out.println(what);
    }

    void end() {
        System.out.println(answers + " answers, " + wrong + " not as due");
        if (wrong != 0 || answers == 0) {
            System.exit(1);
        }
    }
}
