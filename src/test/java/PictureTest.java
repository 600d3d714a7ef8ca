/** A Picture shows each change, so that a refusal that changes something does not pass for one that does not. */
public final class PictureTest {
    private static final Due due = new Due();

    public static void main(String[] args) {
        String each = Kinds.ONE_OF_EACH;
        shown(each, "make(NULL, 0)");
        shown(each, "make(SAVE, 0)");
        shown(each, "put(4, 0, 1)");
        shown(each, "put(5, 0, 5)");
        shown(each, "part(4, 0, 0)");
        shown(each, "part(7, 0, 0)");
        shown(each, "attribute(0, EXECUTABLE, 1)");
        shown(each, "attribute(9, ACCESS, 2)");
        shown(each, "attribute(7, GROWS, 1)");
        shown(each, "entry(7, 1, 0)");
        shown(each + "; entry(7, 1, 0)", "entry(7, 1, 1)");
        shown(each + "; entry(7, 1, 0); attribute(7, GROWS, 1)", "entry(7, 2, 0)");
        shown(each, "restore(11)");
        // bytes that only show after a restore, since ACCESS hides them
        shown("make(STRING, 1); make(SAVE, 0); part(1, 0, 1); attribute(1, ACCESS, 0)", "put(3, 0, 1)");
        // objects and SAVES, of which there is no room for more
        shown("make(SAVE, 0); make(SAVE, 0)", "make(SAVE, 0)");
        shown("98 * make(NULL, 0)", "make(NULL, 0)");
        // what changes nothing
        hidden(each, "attribute(0, EXECUTABLE, 0)");
        hidden(each, "put(5, 0, 0)");
        hidden(each, "make(STRING, 65)");
        hidden("99 * make(NULL, 0)", "make(NULL, 0)");
        due.end();
    }

    private static String difference(String run, String call) {
        Run before = Run.of(run);
        return new Picture(before).difference(new Picture(before.then(Call.read(call))));
    }

    private static void shown(String run, String call) {
        due.yes(call + " is shown", difference(run, call) != null);
    }

    private static void hidden(String run, String call) {
        String difference = difference(run, call);
        due.yes(call + " changes nothing: " + difference, difference == null);
    }
}
