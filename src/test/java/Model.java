import java.util.ArrayList;
import java.util.HashMap;
import java.util.IdentityHashMap;
import java.util.List;
import java.util.Map;

/**
 * The document written a second time, with the Java library and without thrift: two objects are the same if
 * their texts are, and a SAVE keeps a copy of all there is.
 */
final class Model {
    private static final class Store {
        final boolean bytes;
        final int[] cells;

        Store(boolean bytes, int[] cells) {
            this.bytes = bytes;
            this.cells = cells;
        }
    }

    private static final class Dict {
        final Map<String, Integer> entries = new HashMap<>();
        int capacity;
        int access = 3;
        int grows;
    }

    private static final class Thing {
        int kind;
        int number;
        int executable;
        int access;
        Store store;
        int from;
        int length;
        Dict dict;
        Model before;
    }

    private List<Thing> things = new ArrayList<>();
    private Map<Object, Integer> ids = new IdentityHashMap<>();
    private int storage;

    Model() {
        add(Kinds.NULL);
    }

    private Model(Model other) {
        storage = other.storage;
        Map<Object, Object> copies = new IdentityHashMap<>();
        for (Thing t : other.things) {
            things.add(copyOf(t, copies));
        }
        for (Map.Entry<Object, Integer> e : other.ids.entrySet()) {
            ids.put(copies.getOrDefault(e.getKey(), e.getKey()), e.getValue());
        }
    }

    private static Thing copyOf(Thing t, Map<Object, Object> copies) {
        Thing copy = new Thing();
        copy.kind = t.kind;
        copy.number = t.number;
        copy.executable = t.executable;
        copy.access = t.access;
        copy.from = t.from;
        copy.length = t.length;
        copy.before = t.before;
        if (t.store != null) {
            // bytes are shared: a restore leaves them as they are
            copy.store = t.store.bytes ? t.store
                : (Store) copies.computeIfAbsent(t.store, s -> new Store(false, t.store.cells.clone()));
        }
        if (t.dict != null) {
            copy.dict = (Dict) copies.computeIfAbsent(t.dict, d -> copyOf(t.dict));
        }
        return copy;
    }

    private static Dict copyOf(Dict d) {
        Dict copy = new Dict();
        copy.entries.putAll(d.entries);
        copy.capacity = d.capacity;
        copy.access = d.access;
        copy.grows = d.grows;
        return copy;
    }

    private Thing add(int kind) {
        Thing t = new Thing();
        t.kind = kind;
        things.add(t);
        storage += 8;
        return t;
    }

    private Thing at(int object) {
        return object >= 0 && object < things.size() ? things.get(object) : null;
    }

    private static int access(Thing t) {
        return t.dict != null ? t.dict.access : t.access;
    }

    private int idOf(Object o) {
        return ids.computeIfAbsent(o, k -> ids.size());
    }

    /** The text that all objects share that are the same as this one; null if it is the same as nothing. */
    private String text(int object) {
        Thing t = at(object);
        switch (t.kind) {
            case Kinds.NULL: return "null";
            case Kinds.MARK: return "mark";
            case Kinds.NAME: return "chars " + t.number;
            case Kinds.STRING: return t.access < 2 ? null : "chars " + chars(t);
            case Kinds.ARRAY:
            case Kinds.PACKED:
                return t.length == 0 ? "empty" : t.kind + " " + idOf(t.store) + " " + t.from + " " + t.length;
            case Kinds.DICTIONARY: return "dictionary " + idOf(t.dict);
            case Kinds.SAVE: return "save " + object;
            default: return t.kind + " " + t.number;
        }
    }

    private static String chars(Thing t) {
        StringBuilder chars = new StringBuilder();
        for (int i = 0; i < t.length; i++) {
            chars.append((char) t.store.cells[t.from + i]);
        }
        return chars.toString();
    }

    private String key(int object) {
        String text = text(object);
        if (text == null || at(object).kind == Kinds.NULL) {
            return null;
        }
        boolean chars = text.startsWith("chars ");
        return chars && !text.substring(6).matches("0|[1-9][0-9]{0,2}") ? null : text;
    }

    int make(int kind, int size) {
        if (kind < 0 || kind > 11) {
            return -1;
        }
        int[] most = {-1, -1, 1, 999, 64, 32, Math.min(32, things.size()), 32, -1, -1, -1, -1};
        if (most[kind] >= 0 && (size < 0 || size > most[kind])) {
            return -2;
        }
        if (things.size() == 100 || kind == Kinds.SAVE && things.stream().filter(t -> t.kind == Kinds.SAVE).count() == 3) {
            return -4;
        }
        Model before = kind == Kinds.SAVE ? new Model(this) : null;
        Thing t = add(kind);
        t.before = before;
        t.number = size;
        if (kind == Kinds.STRING || kind == Kinds.ARRAY || kind == Kinds.PACKED) {
            t.store = new Store(kind == Kinds.STRING, new int[size]);
            t.length = size;
            storage += size * (kind == Kinds.STRING ? 1 : kind == Kinds.ARRAY ? 8 : 4);
        }
        for (int i = 0; kind == Kinds.PACKED && i < size; i++) {
            t.store.cells[i] = things.size() - 1 - size + i;
        }
        if (kind == Kinds.DICTIONARY) {
            t.dict = new Dict();
            t.dict.capacity = size;
            storage += 16 * size;
        }
        t.access = kind == Kinds.PACKED ? 2 : t.store != null || kind == Kinds.FILE ? 3 : 0;
        return things.size() - 1;
    }

    int put(int object, int i, int v) {
        Thing t = at(object);
        boolean array = t != null && t.kind == Kinds.ARRAY;
        boolean string = t != null && t.kind == Kinds.STRING;
        if (t == null || array && at(v) == null) {
            return -1;
        }
        if ((array || string) && (i < 0 || i >= t.length) || string && (v < 0 || v > 255)) {
            return -2;
        }
        if (!array && !string || t.access != 3) {
            return -3;
        }
        t.store.cells[t.from + i] = v;
        return 1;
    }

    /** Null where the call throws. */
    Integer get(int object, int i) {
        Thing t = at(object);
        if (t == null) {
            return -1;
        }
        if (t.store == null || t.access < 2) {
            return -3;
        }
        return i < 0 || i >= t.length ? null : Integer.valueOf(t.store.cells[t.from + i]);
    }

    int part(int object, int from, int n) {
        Thing t = at(object);
        if (t == null) {
            return -1;
        }
        if (t.store != null && (from < 0 || n < 0 || (long) from + n > t.length)) {
            return -2;
        }
        if (t.store == null && t.dict == null || access(t) < 2) {
            return -3;
        }
        if (things.size() == 100) {
            return -4;
        }
        Thing made = add(t.kind);
        made.executable = t.executable;
        made.access = t.access;
        made.store = t.store;
        made.dict = t.dict;
        if (t.store != null) {
            made.from = t.from + from;
            made.length = n;
        }
        return things.size() - 1;
    }

    int attribute(int object, int what, int v) {
        Thing t = at(object);
        if (t == null) {
            return -1;
        }
        if (what < 0 || what > 2 || v < 0 || v > (what == 1 ? 3 : 1)) {
            return -2;
        }
        boolean accessible = t.store != null || t.dict != null || t.kind == Kinds.FILE;
        if (what == 1 && (!accessible || v > access(t)) || what == 2 && t.dict == null) {
            return -3;
        }
        if (what == 0) {
            t.executable = v;
        } else if (what == 2) {
            t.dict.grows = v;
        } else if (t.dict != null) {
            t.dict.access = v;
        } else {
            t.access = v;
        }
        return 1;
    }

    int told(int object, int what) {
        Thing t = at(object);
        if (t == null) {
            return -1;
        }
        switch (what) {
            case 0: return t.executable;
            case 1: return access(t);
            case 2: return t.dict == null ? 0 : t.dict.grows;
            case 3: return " 1 2 3 9 10 ".contains(" " + t.kind + " ") ? t.number : 0;
            case 4: return t.dict == null ? 0 : t.dict.capacity;
            default: return -2;
        }
    }

    boolean same(int a, int b) {
        return at(a) != null && at(b) != null && text(a) != null && text(a).equals(text(b));
    }

    int compare(int a, int b) {
        Thing s = at(a);
        Thing t = at(b);
        if (s == null || t == null) {
            return -1;
        }
        if (s.kind == Kinds.NUMBER && t.kind == Kinds.NUMBER) {
            return 1 + Integer.compare(s.number, t.number);
        }
        if (s.kind != Kinds.STRING || t.kind != Kinds.STRING || s.access < 2 || t.access < 2) {
            return -3;
        }
        return 1 + Integer.signum(chars(s).compareTo(chars(t)));
    }

    int length(int object) {
        Thing t = at(object);
        if (t == null) {
            return -1;
        }
        if (t.kind == Kinds.NAME) {
            return Integer.toString(t.number).length();
        }
        return t.store != null ? t.length : t.dict != null ? t.dict.entries.size() : -3;
    }

    int entry(int dict, int key, int v) {
        if (at(dict) == null || at(key) == null || at(v) == null) {
            return -1;
        }
        Dict d = at(dict).dict;
        String k = key(key);
        if (d == null || d.access != 3 || k == null) {
            return -3;
        }
        if (!d.entries.containsKey(k) && d.entries.size() == d.capacity) {
            if (d.grows == 0 || d.capacity == 32) {
                return -4;
            }
            int wider = Math.min(32, d.capacity * 2 + 1);
            storage += 16 * (wider - d.capacity);
            d.capacity = wider;
        }
        d.entries.put(k, v);
        return 1;
    }

    int look(int dict, int key) {
        if (at(dict) == null || at(key) == null) {
            return -1;
        }
        Dict d = at(dict).dict;
        String k = key(key);
        if (d == null || d.access < 2 || k == null) {
            return -3;
        }
        return d.entries.getOrDefault(k, -5);
    }

    int kind(int object) {
        return at(object) == null ? -1 : at(object).kind;
    }

    int used() {
        return storage;
    }

    int restore(int save) {
        Thing t = at(save);
        if (t == null) {
            return -1;
        }
        if (t.kind != Kinds.SAVE) {
            return -3;
        }
        things = t.before.things;
        ids = t.before.ids;
        storage = t.before.storage;
        return things.size();
    }
}
