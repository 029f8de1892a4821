/** A fixed series of numbers that look mixed: the same start gives the same series everywhere. */
final class Series {
    private long state;

    Series(int start) {
        state = start;
    }

    long nextLong() {
        state += 0x9E3779B97F4A7C15L;
        long mixed = state;
        mixed = (mixed ^ (mixed >>> 30)) * 0xBF58476D1CE4E5B9L;
        mixed = (mixed ^ (mixed >>> 27)) * 0x94D049BB133111EBL;
        return mixed ^ (mixed >>> 31);
    }

    int nextInt() {
        return (int) nextLong();
    }

    /** A number 0 .. n - 1. */
    int nextInt(int n) {
        return (int) Math.floorMod(nextLong(), (long) n);
    }

    boolean nextBoolean() {
        return nextInt(2) == 1;
    }
}
