import java.util.Arrays;
import java.util.Map;
import java.util.stream.Collectors;

/** A call of the face, kept so that it can be made on more than one object. */
final class Call {
    /** The answer of a get that throws what the document names. */
    static final long THROWN = Long.MIN_VALUE;

    /** Words that may stand for an argument. */
    private static final Map<String, Integer> WORDS = Map.ofEntries(
        Map.entry("NULL", Kinds.NULL), Map.entry("NUMBER", Kinds.NUMBER), Map.entry("BOOLEAN", Kinds.BOOLEAN),
        Map.entry("NAME", Kinds.NAME), Map.entry("STRING", Kinds.STRING), Map.entry("ARRAY", Kinds.ARRAY),
        Map.entry("PACKED", Kinds.PACKED), Map.entry("DICTIONARY", Kinds.DICTIONARY), Map.entry("MARK", Kinds.MARK),
        Map.entry("FILE", Kinds.FILE), Map.entry("OPERATOR", Kinds.OPERATOR), Map.entry("SAVE", Kinds.SAVE),
        Map.entry("EXECUTABLE", Kinds.EXECUTABLE), Map.entry("ACCESS", Kinds.ACCESS), Map.entry("GROWS", Kinds.GROWS),
        Map.entry("ITS_NUMBER", Kinds.ITS_NUMBER), Map.entry("CAPACITY", Kinds.CAPACITY),
        Map.entry("MIN", Integer.MIN_VALUE), Map.entry("MAX", Integer.MAX_VALUE));

    private final String name;
    private final int[] args;

    Call(String name, int... args) {
        this.name = name;
        this.args = args;
    }

    /** Reads a call as it stands in Java, with words for KINDS and attributes: "make(STRING, 64)". */
    static Call read(String text) {
        int open = text.indexOf('(');
        String inside = text.substring(open + 1, text.lastIndexOf(')')).strip();
        int[] args = inside.isEmpty() ? new int[0]
            : Arrays.stream(inside.split(",")).map(String::strip).mapToInt(Call::argument).toArray();
        return new Call(text.substring(0, open).strip(), args);
    }

    private static int argument(String text) {
        Integer word = WORDS.get(text);
        return word != null ? word : Integer.parseInt(text);
    }

    /** Whether an answer that is no refusal means that something has changed. */
    boolean changes() {
        switch (name) {
            case "make": case "put": case "part": case "attribute": case "entry": case "restore": return true;
            default: return false;
        }
    }

    long on(ObjectRows x) {
        switch (name) {
            case "make": return x.make(args[0], args[1]);
            case "put": return x.put(args[0], args[1], args[2]);
            case "get": return got(x);
            case "part": return x.part(args[0], args[1], args[2]);
            case "attribute": return x.attribute(args[0], args[1], args[2]);
            case "told": return x.told(args[0], args[1]);
            case "same": return x.same(args[0], args[1]) ? 1 : 0;
            case "compare": return x.compare(args[0], args[1]);
            case "length": return x.length(args[0]);
            case "entry": return x.entry(args[0], args[1], args[2]);
            case "look": return x.look(args[0], args[1]);
            case "kind": return x.kind(args[0]);
            case "used": return x.used();
            case "restore": return x.restore(args[0]);
            default: throw new IllegalArgumentException(name);
        }
    }

    /** Another exception than the one of the document, or a class below it, is let through and ends the test. */
    private long got(ObjectRows x) {
        try {
            return x.get(args[0], args[1]);
        } catch (ArrayIndexOutOfBoundsException e) {
            if (e.getClass() != ArrayIndexOutOfBoundsException.class) {
                throw e;
            }
            return THROWN;
        }
    }

    long on(Model m) {
        switch (name) {
            case "make": return m.make(args[0], args[1]);
            case "put": return m.put(args[0], args[1], args[2]);
            case "get":
                Integer got = m.get(args[0], args[1]);
                return got == null ? THROWN : got;
            case "part": return m.part(args[0], args[1], args[2]);
            case "attribute": return m.attribute(args[0], args[1], args[2]);
            case "told": return m.told(args[0], args[1]);
            case "same": return m.same(args[0], args[1]) ? 1 : 0;
            case "compare": return m.compare(args[0], args[1]);
            case "length": return m.length(args[0]);
            case "entry": return m.entry(args[0], args[1], args[2]);
            case "look": return m.look(args[0], args[1]);
            case "kind": return m.kind(args[0]);
            case "used": return m.used();
            case "restore": return m.restore(args[0]);
            default: throw new IllegalArgumentException(name);
        }
    }

    /** How an answer is told: a throw by its name. */
    static String told(long answer) {
        return answer == THROWN ? "throws.ArrayIndexOutOfBoundsException" : Long.toString(answer);
    }

    @Override
    public String toString() {
        return name + Arrays.stream(args).mapToObj(Integer::toString).collect(Collectors.joining(", ", "(", ")"));
    }
}
