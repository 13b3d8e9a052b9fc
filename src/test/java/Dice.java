/** Numbers that look random and are the same in every run. */
final class Dice {
    private long state;

    Dice(long seed) {
        state = seed * 0x9E3779B97F4A7C15L + 1;
    }

    int below(int n) {
        state = state * 6364136223846793005L + 1442695040888963407L;
        return (int) Long.remainderUnsigned(state >>> 33, n);
    }

    int from(int least, int most) {
        return least + below(most - least + 1);
    }

    boolean once(int in) {
        return below(in) == 0;
    }

    /** Mostly within the bounds, now and then at or beyond their edges, or far away. */
    int near(int least, int most) {
        switch (below(24)) {
            case 0:
                return least - 1;
            case 1:
                return most + 1;
            case 2:
                return least;
            case 3:
                return most;
            case 4:
                int[] wild = {Integer.MIN_VALUE, Integer.MAX_VALUE, -2, -1, 0, 1 << 20};
                return wild[below(wild.length)];
            default:
                return most < least ? least : from(least, most);
        }
    }
}
