/** The stream of a seed, as the document tells it. */
final class Draws {
    private long state;

    Draws(long seed) {
        state = seed;
    }

    long next() {
        state = state * 6364136223846793005L + 1442695040888963407L;
        return state >>> 33;
    }

    int draw(int n) {
        return (int) (next() % n);
    }

    long wide(long n) {
        long a = next();
        return (2147483648L * a + next()) % n;
    }
}
