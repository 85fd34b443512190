import java.util.Random;

/** Engines whose tape or OUT has a wanted number of bytes. */
final class Sizes {
    static final int FULL = 1000;

    private Sizes() {
    }

    static byte[] bytes(int size) {
        byte[] bytes = new byte[size];
        new Random(size).nextBytes(bytes);
        return bytes;
    }

    /** So many bytes, 0 to 1,000, are in OUT, and the tape is empty: what AEAD seals, or opens where they are few. */
    static NoiseEngine out(NoiseEngine x, int size) {
        empty(x);
        if (size >= 16) {
            Check.feed(x, bytes(size - 16));
            x.seal(0, 0, 0, size - 16);
            return x;
        }
        Check.feed(x, bytes(size));
        x.seal(0, 0, 0, size);
        x.open(0, 0, 0, x.turn());
        return x;
    }

    /** What out() puts into OUT where KEY 0 is 0 still. */
    static byte[] outOf(int size) {
        return size < 16 ? bytes(size) : Reference.seal(new byte[32], 0, new byte[0], bytes(size - 16));
    }

    /** So many bytes, 0 to 1,000, are on the tape, and as many others in OUT. */
    static NoiseEngine tape(NoiseEngine x, int size) {
        out(x, size);
        x.turn();
        x.patch(0, x.out(0) + 1);
        return x;
    }

    /** The first bytes of the tape are these; 0 to 19 bytes 0 come behind them. */
    static NoiseEngine fed(NoiseEngine x, byte[]... parts) {
        empty(x);
        Check.feed(x, Reference.join(parts));
        return x;
    }

    /** Empties the tape; OUT becomes the hash of nothing. */
    static NoiseEngine empty(NoiseEngine x) {
        Check.clear(x);
        return x;
    }
}
