import java.util.ArrayList;
import java.util.Arrays;
import java.util.List;

/**
 * All that later calls can tell after a run: each question with its answer, also after the restore of each SAVE
 * that there is, and how many objects and SAVES there is room for. Two runs with equal pictures have changed the
 * same.
 */
final class Picture {
    private static final int MOST_OBJECTS = 100;

    private final List<Run> runs = new ArrayList<>();
    private final List<Call> questions = new ArrayList<>();
    private long[] answers = new long[1024];

    Picture(Run run) {
        List<Integer> saves = ask(run);
        for (int save : saves) {
            ask(run.then(new Call("restore", save)));
        }
        askForRoom(run);
    }

    /** What is told otherwise in the other picture; null if nothing is. */
    String difference(Picture other) {
        int shared = Math.min(questions.size(), other.questions.size());
        for (int i = 0; i < shared; i++) {
            String question = questions.get(i).toString();
            boolean alike = answers[i] == other.answers[i] && question.equals(other.questions.get(i).toString());
            if (!alike) {
                return question + " " + Call.told(answers[i]) + ", but " + other.questions.get(i) + " "
                    + Call.told(other.answers[i]) + " after " + other.runs.get(i);
            }
        }
        return questions.size() == other.questions.size() ? null : "not so many answers";
    }

    boolean equalAnswers(Picture other) {
        int n = questions.size();
        return n == other.questions.size() && Arrays.equals(answers, 0, n, other.answers, 0, n);
    }

    private void note(Run run, Call question, long answer) {
        if (questions.size() == answers.length) {
            answers = Arrays.copyOf(answers, 2 * answers.length);
        }
        answers[questions.size()] = answer;
        questions.add(question);
        runs.add(run);
    }

    /** Answers which of the objects are SAVES. */
    private List<Integer> ask(Run run) {
        List<Integer> saves = new ArrayList<>();
        List<Call> asked = questionsAfter(run, saves);
        ObjectRows x = run.made();
        int left = Run.MOST_CALLS - run.size();
        for (Call question : asked) {
            if (left == 0) {
                x = run.made();
                left = Run.MOST_CALLS - run.size();
            }
            note(run, question, question.on(x));
            left--;
        }
        return saves;
    }

    private static List<Call> questionsAfter(Run run, List<Integer> saves) {
        List<Call> asked = new ArrayList<>();
        asked.add(new Call("used"));
        ObjectRows x = run.made();
        int count = 0;
        while (count < MOST_OBJECTS && x.kind(count) >= 0) {
            count++;
        }
        for (int object = 0; object <= count; object++) {
            int kind = x.kind(object);
            if (kind == Kinds.SAVE) {
                saves.add(object);
            }
            askOfOne(asked, object, kind, x.length(object));
            askOfTwo(asked, object, kind, count);
        }
        return asked;
    }

    private static void askOfOne(List<Call> asked, int object, int kind, int length) {
        asked.add(new Call("kind", object));
        asked.add(new Call("length", object));
        for (int what = Kinds.EXECUTABLE; what <= Kinds.CAPACITY; what++) {
            asked.add(new Call("told", object, what));
        }
        boolean view = kind == Kinds.STRING || kind == Kinds.ARRAY || kind == Kinds.PACKED;
        for (int i = 0; view && i <= length; i++) {
            asked.add(new Call("get", object, i));
        }
    }

    private static void askOfTwo(List<Call> asked, int object, int kind, int count) {
        for (int other = 0; other <= object; other++) {
            asked.add(new Call("same", object, other));
        }
        for (int key = 0; kind == Kinds.DICTIONARY && key < count; key++) {
            asked.add(new Call("look", object, key));
        }
    }

    private void askForRoom(Run run) {
        ObjectRows x = run.made();
        Call save = new Call("make", Kinds.SAVE, 0);
        for (int i = 0; i <= 3; i++) {
            note(run, save, save.on(x));
        }
        Call string = new Call("make", Kinds.STRING, 1);
        long made = string.on(x);
        note(run, string, made);
        while (made >= 0 && made < MOST_OBJECTS) {
            made = string.on(x);
            note(run, string, made);
        }
        note(run, new Call("used"), x.used());
    }
}
