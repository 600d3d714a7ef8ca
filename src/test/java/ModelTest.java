/** Long runs of calls, drawn from a fixed row of numbers, answer as the Model does. */
public final class ModelTest {
    private static final int RUNS = 2000;
    private static final int CALLS = 512;
    private static final long THROWN = Long.MIN_VALUE;
    private static final String[] NAMES = {"make", "put", "get", "part", "attribute", "told", "same", "compare",
        "length", "entry", "look", "kind", "used", "restore"};
    /** How often each call comes, of 100: everything, dictionaries, views, saves. */
    private static final int[][] SHARES = {
        {22, 10, 8, 10, 8, 6, 8, 5, 4, 8, 5, 2, 2, 2},
        {25, 4, 2, 3, 4, 4, 4, 1, 3, 30, 14, 2, 3, 1},
        {20, 14, 12, 18, 3, 3, 12, 8, 3, 3, 1, 1, 1, 1},
        {28, 14, 12, 3, 8, 8, 2, 1, 4, 8, 4, 1, 3, 4},
    };

    private static final Due due = new Due();
    private static long seed;

    public static void main(String[] args) {
        for (int run = 0; run < RUNS; run++) {
            seed = run;
            oneRun(run);
        }
        due.end();
    }

    private static int below(int n) {
        seed = seed * 6364136223846793005L + 1442695040888963407L;
        return (int) ((seed >>> 33) % n);
    }

    private static void oneRun(int run) {
        ObjectRows x = new ObjectRows();
        Model m = new Model();
        int[] shares = SHARES[run % SHARES.length];
        int near = run % 3 == 0 ? 12 : 100;
        for (int k = 0; k < CALLS; k++) {
            int call = drawn(shares);
            int a = first(call, near);
            int b = second(call, near);
            int c = third(call, near, m.kind(a));
            long got = answer(x, call, a, b, c);
            long want = wanted(m, call, a, b, c);
            due.is("run " + run + ", call " + k + ": " + NAMES[call] + "(" + a + ", " + b + ", " + c + ")", got, want);
            if (got != want) {
                return;
            }
        }
    }

    private static int drawn(int[] shares) {
        int left = below(100);
        for (int call = 0; call < shares.length; call++) {
            left -= shares[call];
            if (left < 0) {
                return call;
            }
        }
        return shares.length - 1;
    }

    private static int object(int near) {
        return below(40) == 0 ? strange() : below(near);
    }

    private static int strange() {
        int[] values = {-1, -2, 100, 1000, Integer.MIN_VALUE, Integer.MAX_VALUE};
        return values[below(values.length)];
    }

    private static int small() {
        return below(30) == 0 ? strange() : below(5) == 0 ? below(70) : below(4);
    }

    private static int first(int call, int near) {
        if (call == 0) {
            int[] kinds = {3, 4, 4, 5, 6, 7, 7, 11};
            return below(30) == 0 ? strange() : below(2) == 0 ? below(13) : kinds[below(kinds.length)];
        }
        return object(near);
    }

    private static int second(int call, int near) {
        switch (call) {
            case 0: case 1: case 2: case 3: return small();
            case 4: return below(20) == 0 ? strange() : below(4);
            case 5: return below(20) == 0 ? strange() : below(6);
            default: return object(near);
        }
    }

    private static int third(int call, int near, int kind) {
        switch (call) {
            case 1: return kind == Kinds.ARRAY ? object(near) : below(10) == 0 ? below(300) : 48 + below(4);
            case 3: return small();
            case 4: return below(3) == 0 ? below(5) - 1 : 1 + below(3);
            default: return object(near);
        }
    }

    private static long answer(ObjectRows x, int call, int a, int b, int c) {
        switch (call) {
            case 0: return x.make(a, b);
            case 1: return x.put(a, b, c);
            case 2:
                try {
                    return x.get(a, b);
                } catch (ArrayIndexOutOfBoundsException e) {
                    return THROWN;
                }
            case 3: return x.part(a, b, c);
            case 4: return x.attribute(a, b, c);
            case 5: return x.told(a, b);
            case 6: return x.same(a, b) ? 1 : 0;
            case 7: return x.compare(a, b);
            case 8: return x.length(a);
            case 9: return x.entry(a, b, c);
            case 10: return x.look(a, b);
            case 11: return x.kind(a);
            case 12: return x.used();
            default: return x.restore(a);
        }
    }

    private static long wanted(Model m, int call, int a, int b, int c) {
        switch (call) {
            case 0: return m.make(a, b);
            case 1: return m.put(a, b, c);
            case 2:
                Integer got = m.get(a, b);
                return got == null ? THROWN : got;
            case 3: return m.part(a, b, c);
            case 4: return m.attribute(a, b, c);
            case 5: return m.told(a, b);
            case 6: return m.same(a, b) ? 1 : 0;
            case 7: return m.compare(a, b);
            case 8: return m.length(a);
            case 9: return m.entry(a, b, c);
            case 10: return m.look(a, b);
            case 11: return m.kind(a);
            case 12: return m.used();
            default: return m.restore(a);
        }
    }
}
