/** Numbers that look as if drawn, always the same ones for a seed. */
final class Drawn {
    private long state;

    Drawn(long seed) {
        state = seed * 2862933555777941757L + 3037000493L;
    }

    int below(int bound) {
        state = state * 6364136223846793005L + 1442695040888963407L;
        return (int) ((state >>> 33) % bound);
    }

    int between(int least, int most) {
        return least + below(most - least + 1);
    }

    boolean once(int in) {
        return below(in) == 0;
    }
}
