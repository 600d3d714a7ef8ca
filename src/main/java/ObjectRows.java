import java.util.Arrays;

/** Objects of a machine that draws pages, held in rows: cell n of a row belongs to object n. */
public final class ObjectRows {
    private static final int NULL = 0;
    private static final int NUMBER = 1;
    private static final int BOOLEAN = 2;
    private static final int NAME = 3;
    private static final int STRING = 4;
    private static final int ARRAY = 5;
    private static final int PACKED = 6;
    private static final int DICTIONARY = 7;
    private static final int MARK = 8;
    private static final int FILE = 9;
    private static final int OPERATOR = 10;
    private static final int SAVE = 11;

    private static final int EXECUTABLE = 0;
    private static final int ACCESS = 1;
    private static final int GROWS = 2;
    private static final int ITS_NUMBER = 3;
    private static final int CAPACITY = 4;

    private static final int ALL = 3;
    private static final int READING = 2;
    private static final int NONE = 0;

    private static final int DONE = 1;
    private static final int UNKNOWN = -1;
    private static final int OUTSIDE = -2;
    private static final int WRONG_STATE = -3;
    private static final int NO_ROOM = -4;
    private static final int NO_ENTRY = -5;

    private static final int LESS = 0;
    private static final int NEITHER = 1;
    private static final int GREATER = 2;

    private static final int MOST_OBJECTS = 100;
    private static final int MOST_SAVES = 3;
    private static final int MOST_NAME = 999;
    private static final int MOST_DIGITS = 3;
    private static final int MOST_BYTES = 64;
    private static final int MOST_ELEMENTS = 32;
    private static final int MOST_ENTRIES = 32;
    private static final int MOST_BYTE = 255;

    private static final int OBJECT_STORAGE = 8;

    private static final int ZERO_DIGIT = 48;
    private static final int NO_NAME = -1;
    private static final int NO_KEY = -1;
    private static final int NO_PLACE = -1;
    /** Keys below this are object numbers, the others stand for names. */
    private static final int FIRST_NAME_KEY = MOST_OBJECTS;

    private final Row kinds = new Row();
    private final Row numbers = new Row();
    /** The object with which the store or the dictionary was made: it is gone only when all its views are. */
    private final Row owners = new Row();
    private final Row starts = new Row();
    private final Row lengths = new Row();
    /** Bytes lie apart from elements because a restore leaves them as they are. */
    private final Row bytes = new Row();
    private final Changing now = new Changing();
    private final Changing[] kept = new Changing[MOST_SAVES];
    private int count;
    private int saves;

    public ObjectRows() {
        addObject(NULL, 0, 0, 0);
    }

    public int make(int kind, int size) {
        if (kind < NULL || kind > SAVE) {
            return UNKNOWN;
        }
        if (!sizeFits(kind, size)) {
            return OUTSIDE;
        }
        if (count >= MOST_OBJECTS || kind == SAVE && saves >= MOST_SAVES) {
            return NO_ROOM;
        }
        now.storage += size * placeStorage(kind);
        switch (kind) {
            case STRING:
                return addObject(kind, 0, bytes.addZeros(size), size);
            case ARRAY:
                return addObject(kind, 0, now.elements.addZeros(size), size);
            case PACKED:
                return makePacked(size);
            case DICTIONARY:
                return makeDictionary(size);
            case SAVE:
                return makeSave();
            default:
                return addObject(kind, size, 0, 0);
        }
    }

    public int put(int object, int i, int v) {
        if (!known(object)) {
            return UNKNOWN;
        }
        int kind = kinds.at(object);
        if (kind != STRING && kind != ARRAY) {
            return WRONG_STATE;
        }
        if (kind == ARRAY && !known(v)) {
            return UNKNOWN;
        }
        if (!hasElement(object, i) || kind == STRING && !within(v, MOST_BYTE)) {
            return OUTSIDE;
        }
        if (accessOf(object) != ALL) {
            return WRONG_STATE;
        }
        storeRow(kind).set(starts.at(object) + i, v);
        return DONE;
    }

    public int get(int object, int i) throws ArrayIndexOutOfBoundsException {
        if (!known(object)) {
            return UNKNOWN;
        }
        if (!isView(kinds.at(object)) || accessOf(object) < READING) {
            return WRONG_STATE;
        }
        if (!hasElement(object, i)) {
            throw new ArrayIndexOutOfBoundsException("no such element");
        }
        return elementOf(object, i);
    }

    public int part(int object, int from, int n) {
        if (!known(object)) {
            return UNKNOWN;
        }
        int kind = kinds.at(object);
        if (!isView(kind) && kind != DICTIONARY) {
            return WRONG_STATE;
        }
        if (isView(kind) && !hasPart(object, from, n)) {
            return OUTSIDE;
        }
        if (accessOf(object) < READING) {
            return WRONG_STATE;
        }
        if (count >= MOST_OBJECTS) {
            return NO_ROOM;
        }
        return kind == DICTIONARY ? addPart(object, 0, 0) : addPart(object, from, n);
    }

    public int attribute(int object, int what, int v) {
        if (!known(object)) {
            return UNKNOWN;
        }
        if (what < EXECUTABLE || what > GROWS || !within(v, what == ACCESS ? ALL : 1)) {
            return OUTSIDE;
        }
        switch (what) {
            case EXECUTABLE:
                now.executables.set(object, v);
                return DONE;
            case ACCESS:
                return lowerAccess(object, v);
            default:
                return letGrow(object, v);
        }
    }

    public int told(int object, int what) {
        if (!known(object)) {
            return UNKNOWN;
        }
        switch (what) {
            case EXECUTABLE:
                return now.executables.at(object);
            case ACCESS:
                return accessOf(object);
            case GROWS:
                return now.growths.at(owners.at(object));
            case ITS_NUMBER:
                return hasNumber(kinds.at(object)) ? numbers.at(object) : 0;
            case CAPACITY:
                return now.capacities.at(owners.at(object));
            default:
                return OUTSIDE;
        }
    }

    public boolean same(int a, int b) {
        return known(a) && known(b) && alike(a, b);
    }

    public int compare(int a, int b) {
        if (!known(a) || !known(b)) {
            return UNKNOWN;
        }
        if (kinds.at(a) == NUMBER && kinds.at(b) == NUMBER) {
            return order(numbers.at(a), numbers.at(b));
        }
        if (readableString(a) && readableString(b)) {
            return orderOfBytes(a, b);
        }
        return WRONG_STATE;
    }

    public int length(int object) {
        if (!known(object)) {
            return UNKNOWN;
        }
        switch (kinds.at(object)) {
            case NAME:
                return digits(numbers.at(object));
            case STRING:
            case ARRAY:
            case PACKED:
                return lengths.at(object);
            case DICTIONARY:
                return now.entries.at(owners.at(object));
            default:
                return WRONG_STATE;
        }
    }

    public int entry(int dict, int key, int v) {
        if (!known(dict) || !known(key) || !known(v)) {
            return UNKNOWN;
        }
        int sought = keyFor(key);
        if (kinds.at(dict) != DICTIONARY || accessOf(dict) != ALL || sought == NO_KEY) {
            return WRONG_STATE;
        }
        int place = placeOf(dict, sought);
        if (place == NO_PLACE) {
            place = addKey(dict, sought);
        }
        if (place == NO_PLACE) {
            return NO_ROOM;
        }
        now.elements.set(valueCell(dict, place), v);
        return DONE;
    }

    public int look(int dict, int key) {
        if (!known(dict) || !known(key)) {
            return UNKNOWN;
        }
        int sought = keyFor(key);
        if (kinds.at(dict) != DICTIONARY || accessOf(dict) < READING || sought == NO_KEY) {
            return WRONG_STATE;
        }
        int place = placeOf(dict, sought);
        return place == NO_PLACE ? NO_ENTRY : now.elements.at(valueCell(dict, place));
    }

    public int kind(int object) {
        return known(object) ? kinds.at(object) : UNKNOWN;
    }

    public int used() {
        return now.storage;
    }

    public int restore(int save) {
        if (!known(save)) {
            return UNKNOWN;
        }
        Changing before = keptBy(save);
        if (before == null) {
            return WRONG_STATE;
        }
        saves = numbers.at(save);
        bytes.cut(starts.at(save));
        now.become(before);
        kinds.cut(save);
        numbers.cut(save);
        owners.cut(save);
        starts.cut(save);
        lengths.cut(save);
        count = save;
        return count;
    }

    private boolean known(int object) {
        return object >= 0 && object < count;
    }

    /** Whether v is one of 0 .. most. */
    private static boolean within(int v, int most) {
        return v >= 0 && v <= most;
    }

    private boolean sizeFits(int kind, int size) {
        switch (kind) {
            case BOOLEAN:
                return within(size, 1);
            case NAME:
                return within(size, MOST_NAME);
            case STRING:
                return within(size, MOST_BYTES);
            case ARRAY:
                return within(size, MOST_ELEMENTS);
            case PACKED:
                return within(size, Math.min(MOST_ELEMENTS, count));
            case DICTIONARY:
                return within(size, MOST_ENTRIES);
            default:
                return true;
        }
    }

    private static boolean isView(int kind) {
        return kind == STRING || isList(kind);
    }

    private static boolean isList(int kind) {
        return kind == ARRAY || kind == PACKED;
    }

    private static boolean hasNumber(int kind) {
        return kind == NUMBER || kind == BOOLEAN || kind == NAME || kind == FILE || kind == OPERATOR;
    }

    private static int firstAccess(int kind) {
        switch (kind) {
            case STRING:
            case ARRAY:
            case DICTIONARY:
            case FILE:
                return ALL;
            case PACKED:
                return READING;
            default:
                return NONE;
        }
    }

    private static int placeStorage(int kind) {
        switch (kind) {
            case STRING:
                return 1;
            case ARRAY:
                return 8;
            case PACKED:
                return 4;
            case DICTIONARY:
                return 16;
            default:
                return 0;
        }
    }

    private int addObject(int kind, int number, int start, int length) {
        int made = count;
        kinds.add(kind);
        numbers.add(number);
        owners.add(made);
        starts.add(start);
        lengths.add(length);
        now.addCells(firstAccess(kind));
        now.storage += OBJECT_STORAGE;
        count = made + 1;
        return made;
    }

    private int makePacked(int size) {
        int first = count - size;
        int start = now.elements.addZeros(size);
        for (int i = 0; i < size; i++) {
            now.elements.set(start + i, first + i);
        }
        return addObject(PACKED, 0, start, size);
    }

    /** Takes the cells of the widest dictionary at once, so that one that grows stays where it is. */
    private int makeDictionary(int capacity) {
        int made = addObject(DICTIONARY, 0, now.elements.addZeros(2 * MOST_ENTRIES), 0);
        now.capacities.set(made, capacity);
        return made;
    }

    /** The number of a SAVE is how many there were before it, its start is where later bytes begin. */
    private int makeSave() {
        int slot = saves;
        if (slot >= 0 && slot < kept.length) {
            if (kept[slot] == null) {
                kept[slot] = new Changing();
            }
            kept[slot].become(now);
        }
        saves = slot + 1;
        return addObject(SAVE, slot, bytes.size(), 0);
    }

    /** What a SAVE keeps; null if the object is none. */
    private Changing keptBy(int object) {
        int slot = numbers.at(object);
        boolean keeps = kinds.at(object) == SAVE && slot >= 0 && slot < kept.length;
        return keeps ? kept[slot] : null;
    }

    private int addPart(int object, int from, int n) {
        int made = addObject(kinds.at(object), 0, starts.at(object) + from, n);
        owners.set(made, owners.at(object));
        now.accesses.set(made, now.accesses.at(object));
        now.executables.set(made, now.executables.at(object));
        return made;
    }

    private boolean hasElement(int object, int i) {
        return i >= 0 && i < lengths.at(object);
    }

    private boolean hasPart(int object, int from, int n) {
        int length = lengths.at(object);
        // a difference, since from + n may wrap around
        return within(from, length) && within(n, length - from);
    }

    private Row storeRow(int kind) {
        return kind == STRING ? bytes : now.elements;
    }

    private int elementOf(int object, int i) {
        return storeRow(kinds.at(object)).at(starts.at(object) + i);
    }

    /** Objects of one dictionary share the ACCESS of the one with which it was made. */
    private int accessHolder(int object) {
        return kinds.at(object) == DICTIONARY ? owners.at(object) : object;
    }

    private int accessOf(int object) {
        return now.accesses.at(accessHolder(object));
    }

    private int lowerAccess(int object, int v) {
        if (firstAccess(kinds.at(object)) == NONE || v > accessOf(object)) {
            return WRONG_STATE;
        }
        now.accesses.set(accessHolder(object), v);
        return DONE;
    }

    private int letGrow(int object, int v) {
        if (kinds.at(object) != DICTIONARY) {
            return WRONG_STATE;
        }
        now.growths.set(owners.at(object), v);
        return DONE;
    }

    private boolean alike(int a, int b) {
        int kind = kinds.at(a);
        int other = kinds.at(b);
        if (kind == STRING && other == STRING) {
            return readableString(a) && readableString(b) && orderOfBytes(a, b) == NEITHER;
        }
        if (kind == STRING || other == STRING) {
            return nameOf(a) != NO_NAME && nameOf(a) == nameOf(b);
        }
        return alikeButStrings(a, b);
    }

    private boolean alikeButStrings(int a, int b) {
        int kind = kinds.at(a);
        int other = kinds.at(b);
        if (isList(kind) && isList(other) && lengths.at(a) == 0 && lengths.at(b) == 0) {
            return true;
        }
        return kind == other && alikeOfKind(kind, a, b);
    }

    private boolean alikeOfKind(int kind, int a, int b) {
        switch (kind) {
            case NULL:
            case MARK:
                return true;
            case ARRAY:
            case PACKED:
                return owners.at(a) == owners.at(b)
                    && starts.at(a) == starts.at(b)
                    && lengths.at(a) == lengths.at(b);
            case DICTIONARY:
                return owners.at(a) == owners.at(b);
            case SAVE:
                return a == b;
            default:
                return numbers.at(a) == numbers.at(b);
        }
    }

    private boolean readableString(int object) {
        return kinds.at(object) == STRING && accessOf(object) >= READING;
    }

    private static int order(int a, int b) {
        if (a == b) {
            return NEITHER;
        }
        return a < b ? LESS : GREATER;
    }

    private int orderOfBytes(int a, int b) {
        int shared = Math.min(lengths.at(a), lengths.at(b));
        for (int i = 0; i < shared; i++) {
            int found = order(elementOf(a, i), elementOf(b, i));
            if (found != NEITHER) {
                return found;
            }
        }
        return order(lengths.at(a), lengths.at(b));
    }

    private static int digits(int name) {
        if (name < 10) {
            return 1;
        }
        return name < 100 ? 2 : MOST_DIGITS;
    }

    /** The number of a NAME, or of the NAME that a STRING is the same as. */
    private int nameOf(int object) {
        if (kinds.at(object) == NAME) {
            return numbers.at(object);
        }
        return readableString(object) ? numberInTens(object) : NO_NAME;
    }

    private int numberInTens(int string) {
        int length = lengths.at(string);
        if (length < 1 || length > MOST_DIGITS) {
            return NO_NAME;
        }
        int number = 0;
        for (int i = 0; i < length; i++) {
            int digit = elementOf(string, i) - ZERO_DIGIT;
            boolean leadingZero = i > 0 && number == 0;
            if (!within(digit, 9) || leadingZero) {
                return NO_NAME;
            }
            number = number * 10 + digit;
        }
        return number;
    }

    /** Names are keys by their number, since the bytes of a STRING may change later. */
    private int keyFor(int object) {
        int kind = kinds.at(object);
        if (kind == NULL) {
            return NO_KEY;
        }
        if (kind != STRING && kind != NAME) {
            return object;
        }
        int name = nameOf(object);
        return name == NO_NAME ? NO_KEY : FIRST_NAME_KEY + name;
    }

    private boolean alikeKeys(int a, int b) {
        if (a >= FIRST_NAME_KEY || b >= FIRST_NAME_KEY) {
            return a == b;
        }
        return alikeButStrings(a, b);
    }

    private int keyCell(int dict, int place) {
        return starts.at(dict) + place;
    }

    private int valueCell(int dict, int place) {
        return starts.at(dict) + MOST_ENTRIES + place;
    }

    private int placeOf(int dict, int key) {
        int entries = now.entries.at(owners.at(dict));
        for (int place = 0; place < entries; place++) {
            if (alikeKeys(now.elements.at(keyCell(dict, place)), key)) {
                return place;
            }
        }
        return NO_PLACE;
    }

    private int addKey(int dict, int key) {
        int owner = owners.at(dict);
        int place = now.entries.at(owner);
        if (place >= now.capacities.at(owner) && !grow(owner)) {
            return NO_PLACE;
        }
        now.elements.set(keyCell(dict, place), key);
        now.entries.set(owner, place + 1);
        return place;
    }

    private boolean grow(int owner) {
        int capacity = now.capacities.at(owner);
        if (now.growths.at(owner) == 0 || capacity >= MOST_ENTRIES) {
            return false;
        }
        int wider = Math.min(2 * capacity + 1, MOST_ENTRIES);
        now.capacities.set(owner, wider);
        now.storage += (wider - capacity) * placeStorage(DICTIONARY);
        return true;
    }

    /** All that a restore puts back. */
    private static final class Changing {
        final Row executables = new Row();
        final Row accesses = new Row();
        final Row capacities = new Row();
        final Row entries = new Row();
        final Row growths = new Row();
        final Row elements = new Row();
        int storage;

        void addCells(int access) {
            executables.add(0);
            accesses.add(access);
            capacities.add(0);
            entries.add(0);
            growths.add(0);
        }

        void become(Changing other) {
            executables.become(other.executables);
            accesses.become(other.accesses);
            capacities.become(other.capacities);
            entries.become(other.entries);
            growths.become(other.growths);
            elements.become(other.elements);
            storage = other.storage;
        }
    }

    /** Numbers one behind the other; cells that are cut off are used again. */
    private static final class Row {
        private static final int FIRST_ROOM = 8;

        private int[] cells = new int[FIRST_ROOM];
        private int size;

        int size() {
            return size;
        }

        int at(int i) {
            return i >= 0 && i < cells.length ? cells[i] : 0;
        }

        void set(int i, int v) {
            if (i >= 0 && i < cells.length) {
                cells[i] = v;
            }
        }

        void add(int v) {
            reach(size + 1);
            set(size, v);
            size++;
        }

        /** Answers where the first of them lies. */
        int addZeros(int n) {
            int first = size;
            reach(first + n);
            for (int i = 0; i < n; i++) {
                set(first + i, 0);
            }
            size = first + n;
            return first;
        }

        void cut(int n) {
            if (n >= 0 && n < size) {
                size = n;
            }
        }

        void become(Row other) {
            reach(other.size);
            size = Math.min(other.size, Math.min(cells.length, other.cells.length));
            System.arraycopy(other.cells, 0, cells, 0, size);
        }

        private void reach(int wanted) {
            if (wanted > cells.length) {
                cells = Arrays.copyOf(cells, Math.max(wanted, 2 * cells.length));
            }
        }
    }
}
