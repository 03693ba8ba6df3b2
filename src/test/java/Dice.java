/** Numbers that look thrown but are the same in every run. */
final class Dice {
    private long state;

    Dice(long seed) {
        state = seed * 0x9E3779B97F4A7C15L + 1;
    }

    private int next() {
        state = state * 6364136223846793005L + 1442695040888963407L;
        return (int) (state >>> 33);
    }

    /** 0 .. n - 1 */
    int below(int n) {
        return next() % n;
    }

    int between(int low, int high) {
        return low + below(high - low + 1);
    }

    boolean onceIn(int n) {
        return below(n) == 0;
    }

    long bits() {
        return (long) next() << 40 ^ (long) next() << 20 ^ next();
    }

    /** Mostly within low .. high, often at its ends, sometimes beyond them. */
    int around(int low, int high) {
        switch (below(40)) {
            case 0: return low - 1;
            case 1: return high + 1;
            case 2: case 3: return low;
            case 4: case 5: return high;
            case 6: return onceIn(3) ? Integer.MIN_VALUE : onceIn(2) ? Integer.MAX_VALUE : (int) bits();
            default: return between(low, high);
        }
    }
}
