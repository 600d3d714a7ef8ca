import java.util.ArrayList;
import java.util.List;

/**
 * All calls of a grid of arguments, in states with all ACCESS, with less, with 3 SAVES and with 100 objects: each
 * answers as the Model does, and one that is refused, throws, or only asks changes nothing.
 */
public final class RefusalsTest {
    private static final String EACH = "make(NUMBER, -2); make(BOOLEAN, 1); make(NAME, 42); make(STRING, 1); make(ARRAY, 1);"
        + " make(PACKED, 1); make(DICTIONARY, 1); make(MARK, 0); make(FILE, 3); make(SAVE, 0); entry(7, 1, 3);"
        + " put(5, 0, 5); put(4, 0, 52); attribute(3, EXECUTABLE, 1)";
    private static final String[] STATES = {
        "make(NULL, 0)",
        EACH,
        EACH + "; make(SAVE, 0); make(SAVE, 0); put(5, 0, 9); attribute(7, GROWS, 1)",
        EACH + "; attribute(4, ACCESS, 2); attribute(5, ACCESS, 2); attribute(7, ACCESS, 2); attribute(9, ACCESS, 2)",
        EACH + "; attribute(4, ACCESS, 1); attribute(5, ACCESS, 1); attribute(6, ACCESS, 1); attribute(7, ACCESS, 1)",
        EACH + "; attribute(4, ACCESS, 0); attribute(5, ACCESS, 0); attribute(6, ACCESS, 0); attribute(7, ACCESS, 0)",
    };
    private static final String FULL = EACH + "; 89 * make(NULL, 0)";

    private static final int MIN = Integer.MIN_VALUE;
    private static final int MAX = Integer.MAX_VALUE;
    private static final int[] SMALL = {MIN, -1, 0, 1, 2, 255, 256, MAX};
    private static final int[] WHATS = {MIN, -1, 0, 1, 2, 3, 4, 5, MAX};
    private static final int[] SIZES = {MIN, -1, 0, 1, 2, 12, 13, 14, 32, 33, 64, 65, 999, 1000, MAX};

    private static final Due due = new Due();

    public static void main(String[] args) {
        int[] objects = {MIN, -1, 0, 1, 2, 3, 4, 5, 6, 7, 8, 9, 10, 11, 12, 13, 100, MAX};
        for (String state : STATES) {
            tryAll(Run.of(state), objects);
        }
        int[] some = {-1, 0, 4, 5, 7, 10, 99, 100};
        tryAll(Run.of(FULL), some);
        due.end();
    }

    private static void tryAll(Run run, int[] objects) {
        Picture before = new Picture(run);
        for (Call call : grid(objects)) {
            tryOne(run, before, call);
        }
    }

    private static void tryOne(Run run, Picture before, Call call) {
        Model model = new Model();
        for (Call earlier : run.calls()) {
            earlier.on(model);
        }
        long answer = call.on(run.made());
        due.is("after " + run + ": " + call, answer, call.on(model));
        if (answer < 0 || !call.changes()) {
            Picture after = new Picture(run.then(call));
            boolean alike = before.equalAnswers(after);
            due.yes("after " + run + ": " + (alike ? "" : before.difference(after)), alike);
        }
    }

    private static List<Call> grid(int[] objects) {
        List<Call> calls = new ArrayList<>();
        calls.add(new Call("used"));
        for (int kind = -1; kind <= 12; kind++) {
            add(calls, "make", new int[] {kind}, SIZES);
        }
        String[] ofOne = {"length", "kind", "restore"};
        for (String name : ofOne) {
            add(calls, name, objects);
        }
        String[] ofTwo = {"same", "compare", "look"};
        for (String name : ofTwo) {
            add(calls, name, objects, objects);
        }
        add(calls, "get", objects, SMALL);
        add(calls, "told", objects, WHATS);
        add(calls, "put", objects, SMALL, SMALL);
        add(calls, "part", objects, SMALL, SMALL);
        add(calls, "attribute", objects, WHATS, WHATS);
        add(calls, "entry", objects, objects, new int[] {-1, 0, 1, 100});
        return calls;
    }

    /** The call with each first, each second, each third argument. */
    private static void add(List<Call> calls, String name, int[]... choices) {
        int all = 1;
        for (int[] choice : choices) {
            all *= choice.length;
        }
        for (int n = 0; n < all; n++) {
            int[] args = new int[choices.length];
            int rest = n;
            for (int k = 0; k < choices.length; k++) {
                args[k] = choices[k][rest % choices[k].length];
                rest /= choices[k].length;
            }
            calls.add(new Call(name, args));
        }
    }
}
