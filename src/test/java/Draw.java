/** Numbers that look drawn, and are the same each time. */
final class Draw {
    private long seed;

    Draw(long seed) {
        this.seed = seed;
    }

    int below(int bound) {
        seed = seed * 6364136223846793005L + 1442695040888963407L;
        return (int) ((seed >>> 33) % bound);
    }
}
