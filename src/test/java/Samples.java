/** Objects of Packstack to begin a test with. */
final class Samples {
    /** Five letters: whole it costs 5, as a delta against its like 3. */
    static final long FIVE = 0x12345L;

    private Samples() {
    }

    /** Objects with rising numbers from 0, all of one name. */
    static Packstack stored(long... contents) {
        Packstack x = new Packstack();
        for (long content : contents) {
            x.store(5, content);
        }
        return x;
    }

    static Packstack packed(int window, int bound, long... contents) {
        Packstack x = stored(contents);
        x.pack(window, bound, false);
        return x;
    }

    /** A chain: 1 is a delta against 0, 2 one against 1. */
    static Packstack chain() {
        return packed(8, 6, FIVE, FIVE, FIVE);
    }

    /** The longest chain that a bound allows: 0 is whole, 6 has the depth 6. */
    static Packstack longestChain() {
        return packed(8, 6, FIVE, FIVE, FIVE, FIVE, FIVE, FIVE, FIVE);
    }

    static Packstack alike(int count) {
        Packstack x = new Packstack();
        for (int i = 0; i < count; i++) {
            x.store(5, FIVE);
        }
        return x;
    }
}
