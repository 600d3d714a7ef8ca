import java.util.Arrays;

/** Long runs of calls, drawn from a fixed row of numbers, answer as the Model does. */
public final class ModelTest {
    private static final int RUNS = 2000;
    private static final int CALLS = 512;
    private static final String[] NAMES = {"make", "put", "get", "part", "attribute", "told", "same", "compare",
        "length", "entry", "look", "kind", "used", "restore"};
    private static final int[] ARGUMENTS = {2, 3, 2, 3, 3, 2, 2, 2, 1, 3, 2, 1, 0, 1};
    /** How often each call comes, of 100: everything, dictionaries, views, saves. */
    private static final int[][] SHARES = {
        {22, 10, 8, 10, 8, 6, 8, 5, 4, 8, 5, 2, 2, 2},
        {25, 4, 2, 3, 4, 4, 4, 1, 3, 30, 14, 2, 3, 1},
        {20, 14, 12, 18, 3, 3, 12, 8, 3, 3, 1, 1, 1, 1},
        {28, 14, 12, 3, 8, 8, 2, 1, 4, 8, 4, 1, 3, 4},
    };

    private static final Due due = new Due();
    private static long seed;

    public static void main(String[] args) {
        for (int run = 0; run < RUNS; run++) {
            seed = run;
            oneRun(run);
        }
        due.end();
    }

    private static int below(int n) {
        seed = seed * 6364136223846793005L + 1442695040888963407L;
        return (int) ((seed >>> 33) % n);
    }

    private static void oneRun(int run) {
        ObjectRows x = new ObjectRows();
        Model m = new Model();
        int[] shares = SHARES[run % SHARES.length];
        int near = run % 3 == 0 ? 12 : 100;
        for (int k = 0; k < CALLS; k++) {
            int drawn = drawn(shares);
            int a = first(drawn, near);
            int b = second(drawn, near);
            int c = third(drawn, near, m.kind(a));
            Call call = new Call(NAMES[drawn], Arrays.copyOf(new int[] {a, b, c}, ARGUMENTS[drawn]));
            long got = call.on(x);
            long want = call.on(m);
            due.is("run " + run + ", call " + k + ": " + call, got, want);
            if (got != want) {
                return;
            }
        }
    }

    private static int drawn(int[] shares) {
        int left = below(100);
        for (int call = 0; call < shares.length; call++) {
            left -= shares[call];
            if (left < 0) {
                return call;
            }
        }
        return shares.length - 1;
    }

    private static int object(int near) {
        return below(40) == 0 ? strange() : below(near);
    }

    private static int strange() {
        int[] values = {-1, -2, 100, 1000, Integer.MIN_VALUE, Integer.MAX_VALUE};
        return values[below(values.length)];
    }

    private static int small() {
        return below(30) == 0 ? strange() : below(5) == 0 ? below(70) : below(4);
    }

    private static int first(int call, int near) {
        if (call == 0) {
            int[] kinds = {3, 4, 4, 5, 6, 7, 7, 11};
            return below(30) == 0 ? strange() : below(2) == 0 ? below(13) : kinds[below(kinds.length)];
        }
        return object(near);
    }

    private static int second(int call, int near) {
        switch (call) {
            case 0: case 1: case 2: case 3: return small();
            case 4: return below(20) == 0 ? strange() : below(4);
            case 5: return below(20) == 0 ? strange() : below(6);
            default: return object(near);
        }
    }

    private static int third(int call, int near, int kind) {
        switch (call) {
            case 1: return kind == Kinds.ARRAY ? object(near) : below(10) == 0 ? below(300) : 48 + below(4);
            case 3: return small();
            case 4: return below(3) == 0 ? below(5) - 1 : 1 + below(3);
            default: return object(near);
        }
    }
}
