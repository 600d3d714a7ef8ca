import java.util.ArrayList;
import java.util.List;

/** Calls in their order on a new object. They can be made again, since one object is good for 512 calls only. */
final class Run {
    static final int MOST_CALLS = 512;

    private final List<Call> calls;

    private Run(List<Call> calls) {
        if (calls.size() > MOST_CALLS) {
            throw new IllegalArgumentException("more calls than an object is good for: " + calls.size());
        }
        this.calls = calls;
    }

    /** Each text holds calls with ';' between them; "98 * make(NULL, 0)" is that call 98 times. */
    static Run of(String... texts) {
        List<Call> calls = new ArrayList<>();
        for (String text : texts) {
            for (String part : text.split(";")) {
                addTimes(calls, part.strip());
            }
        }
        return new Run(calls);
    }

    private static void addTimes(List<Call> calls, String text) {
        int star = text.indexOf('*');
        int times = star < 0 ? 1 : Integer.parseInt(text.substring(0, star).strip());
        Call call = Call.read(text.substring(star + 1));
        for (int i = 0; i < times; i++) {
            calls.add(call);
        }
    }

    /** The calls that make a STRING of these characters, whose number is to be the given one. */
    static String text(int object, String characters) {
        StringBuilder calls = new StringBuilder("make(STRING, " + characters.length() + ")");
        for (int i = 0; i < characters.length(); i++) {
            calls.append("; put(" + object + ", " + i + ", " + (int) characters.charAt(i) + ")");
        }
        return calls.toString();
    }

    Run then(Call call) {
        List<Call> longer = new ArrayList<>(calls);
        longer.add(call);
        return new Run(longer);
    }

    List<Call> calls() {
        return calls;
    }

    int size() {
        return calls.size();
    }

    ObjectRows made() {
        ObjectRows x = new ObjectRows();
        for (Call call : calls) {
            call.on(x);
        }
        return x;
    }

    @Override
    public String toString() {
        StringBuilder text = new StringBuilder("new ObjectRows()");
        for (int i = 0, times; i < calls.size(); i += times) {
            String call = calls.get(i).toString();
            times = 1;
            while (i + times < calls.size() && calls.get(i + times).toString().equals(call)) {
                times++;
            }
            text.append(", ").append(times == 1 ? "" : times + " * ").append(call);
        }
        return text.toString();
    }
}
