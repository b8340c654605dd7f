/** Numbers that look drawn and are the same in each run. */
final class Chance {
    private long state;

    Chance(long seed) {
        state = seed * 0x9E3779B97F4A7C15L + 12345;
        below(2);
    }

    int below(int n) {
        state = state * 6364136223846793005L + 1442695040888963407L;
        return (int) ((state >>> 33) % n);
    }

    boolean oneIn(int n) {
        return below(n) == 0;
    }

    /** Mostly one of low .. high, now and then one that is just outside or far off. */
    int about(int low, int high) {
        if (!oneIn(25)) return low + below(high - low + 1);
        int[] odd = {low - 1, high + 1, -1, -2, Integer.MIN_VALUE, Integer.MAX_VALUE, low, high, 31, 32, 1 << 20};
        return odd[below(odd.length)];
    }

    String of(String... some) {
        return some[below(some.length)];
    }
}
