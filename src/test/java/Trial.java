/** Tries one sentence of the document: runs of calls, each with the answer that is due. */
final class Trial {
    /** More would hide what went wrong first. */
    private static final int MOST_TOLD = 5;

    private Run run = Run.of();
    private ObjectRows x = new ObjectRows();
    private int answers;
    private int told;
    private final StringBuilder wrong = new StringBuilder();

    /** A new object after these calls, none of which is to be refused. */
    void after(String... calls) {
        run = Run.of(calls);
        x = new ObjectRows();
        for (Call call : run.calls()) {
            long answer = call.on(x);
            if (call.changes() && answer < 0) {
                tell(call + " is refused in " + run);
            }
        }
    }

    void is(String text, long want) {
        Call call = Call.read(text);
        answer(call, want);
        run = run.then(call);
    }

    /** The call is not refused, whatever it answers. */
    void taken(String text) {
        Call call = Call.read(text);
        answers++;
        long got = call.on(x);
        if (got < 0) {
            tell("after " + run + ": " + call + " answered " + Call.told(got) + ", due is no refusal");
        }
        run = run.then(call);
    }

    /** The call answers so, and no later call tells that it was made. */
    void refused(String text, long want) {
        Call call = Call.read(text);
        answer(call, want);
        String changed = new Picture(run).difference(new Picture(run.then(call)));
        if (changed != null) {
            tell("after " + run + ": " + changed);
        }
        run = run.then(call);
    }

    /** The get throws what the document names, and no later call tells that it was made. */
    void thrown(String text) {
        refused(text, Call.THROWN);
    }

    private void answer(Call call, long want) {
        answers++;
        long got = call.on(x);
        if (got != want) {
            tell("after " + run + ": " + call + " answered " + Call.told(got) + ", due is " + Call.told(want));
        }
    }

    void tell(String what) {
        told++;
        if (told <= MOST_TOLD) {
            wrong.append("    ").append(what).append('\n');
        }
    }

    int answers() {
        return answers;
    }

    String wrong() {
        return wrong.toString();
    }
}
