/** The document's draws, told once more with long numbers. */
final class Lots {
    long seed;

    Lots(long seed) {
        this.seed = seed;
    }

    int draw(int n) {
        seed = (seed * 1103515245L + 12345L) % 2147483648L;
        return (int) (seed / 65536 % n);
    }
}
