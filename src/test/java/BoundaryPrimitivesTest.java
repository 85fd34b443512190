import java.util.function.Supplier;

/** The boundary sentences of promises 7 to 11: curve, hash, mac, seal, open. */
public final class BoundaryPrimitivesTest {
    private static final Boundary TEST = new Boundary("BoundaryPrimitivesTest");
    private static final int[] NO_KEYS = {-1, 8, Integer.MIN_VALUE, Integer.MAX_VALUE};
    private static final int[] KEY_ENDS = {0, 7};
    private static final int FULL = Sizes.FULL;
    private static final int MIN = Integer.MIN_VALUE;
    private static final int MAX = Integer.MAX_VALUE;
    private static final byte[] NOTHING = {};

    public static void main(String[] args) {
        curve();
        hash();
        mac();
        seal();
        open();
        TEST.end();
    }

    /** KEY k is Sizes.bytes(32 + k): each KEY another one. */
    private static NoiseEngine withKeys() {
        NoiseEngine x = new NoiseEngine();
        for (int k = 0; k < 8; k++) {
            Check.setKey(x, k, Check.hex(keyOf(k)));
        }
        return x;
    }

    private static byte[] keyOf(int k) {
        return Reference.part(Sizes.bytes(32 + k), 0, 32);
    }

    private static Supplier<NoiseEngine> tapeOf(int size) {
        return () -> Sizes.tape(new NoiseEngine(), size);
    }

    private static void curve() {
        TEST.sentence("Promise 7 (curve)", "OUT is X25519 of a KEY and the point 9 (own)",
                BoundaryPrimitivesTest::curveOwn);
        TEST.sentence("Promise 7 (curve)", "or and the 32 bytes of the tape: 32", BoundaryPrimitivesTest::curveOfTape);
        TEST.sentence("Promise 7 (curve)", "-2, doing nothing: no such KEY", BoundaryPrimitivesTest::curveNoKey);
        TEST.sentence("Promise 7 (curve)", "or there are fewer", BoundaryPrimitivesTest::curveOfFewer);
    }

    /** The point 9 asks nothing of the tape, be it empty, too short or full, and takes nothing of it. */
    private static void curveOwn() {
        for (int k : KEY_ENDS) {
            for (int size : new int[] {0, 20, 31, 32, FULL}) {
                NoiseEngine x = Sizes.tape(withKeys(), size);
                TEST.due("curve(" + k + ", true) beside " + size, x.curve(k, true), 32);
                TEST.due("OUT then", Check.outHex(x), Reference.publicKey(keyOf(k)));
                TEST.due("the tape then", x.count(0), size);
            }
        }
    }

    private static void curveOfTape() {
        byte[] all = Sizes.bytes(FULL);
        for (int k : KEY_ENDS) {
            for (int size : new int[] {40, FULL}) {
                NoiseEngine x = Sizes.fed(withKeys(), Reference.part(all, 0, size));
                TEST.due("curve(" + k + ", false) of " + size, x.curve(k, false), 32);
                TEST.due("OUT then", Check.outHex(x), Reference.x25519(keyOf(k), Reference.part(all, 0, 32)));
                TEST.due("the tape then", x.count(0), 0);
            }
        }
        NoiseEngine x = Sizes.out(new NoiseEngine(), 32);
        x.turn();
        TEST.due("curve(0, false) of 32", x.curve(0, false), 32);
        TEST.due("OUT then", Check.outHex(x), Reference.x25519(new byte[32], Sizes.outOf(32)));
    }

    private static void curveNoKey() {
        for (int k : NO_KEYS) {
            TEST.doesNothing("curve(" + k + ", true)", tapeOf(32), x -> x.curve(k, true), -2);
            TEST.doesNothing("curve(" + k + ", false)", tapeOf(32), x -> x.curve(k, false), -2);
            TEST.doesNothing("curve(" + k + ", true) of 0", tapeOf(0), x -> x.curve(k, true), -2);
        }
    }

    private static void curveOfFewer() {
        for (int size : new int[] {0, 1, 20, 31}) {
            TEST.doesNothing("curve(0, false) of " + size, tapeOf(size), x -> x.curve(0, false), -2);
            TEST.doesNothing("curve(7, false) of " + size, tapeOf(size), x -> x.curve(7, false), -2);
        }
    }

    private static void hash() {
        TEST.sentence("Promise 8 (hash)", "OUT is H of n bytes of the tape: 32", BoundaryPrimitivesTest::hashOfSizes);
        TEST.sentence("Promise 8 (hash)", "-2, doing nothing: n is below 0", BoundaryPrimitivesTest::hashBelow0);
        TEST.sentence("Promise 8 (hash)", "or more than there are", BoundaryPrimitivesTest::hashOfTooMany);
    }

    /** None, all, all but one, and the sizes about which a block of H ends. */
    private static void hashOfSizes() {
        byte[] all = Sizes.bytes(FULL);
        for (int n : new int[] {0, 1, 55, 56, 57, 63, 64, 65, 119, 120, 127, 128, 951, 952, 960, 999, FULL}) {
            NoiseEngine x = Sizes.fed(new NoiseEngine(), all);
            TEST.due("hash(" + n + ") of 1,000", x.hash(n), 32);
            TEST.due("OUT then", Check.outHex(x), Reference.sha256(Reference.part(all, 0, n)));
            TEST.due("the tape then", x.count(0), 0);
        }
        NoiseEngine x = new NoiseEngine();
        TEST.due("hash(0) of an empty tape", x.hash(0), 32);
        TEST.due("OUT then", Check.outHex(x), Reference.sha256(NOTHING));
    }

    private static void hashBelow0() {
        for (int n : new int[] {-1, -20, MIN}) {
            for (int size : new int[] {0, 20, FULL}) {
                TEST.doesNothing("hash(" + n + ") of " + size, tapeOf(size), x -> x.hash(n), -2);
            }
        }
    }

    private static void hashOfTooMany() {
        for (int size : new int[] {0, 1, 20, 999, FULL}) {
            TEST.doesNothing("hash of one more than " + size, tapeOf(size), x -> x.hash(size + 1), -2);
            TEST.doesNothing("hash(MAX) of " + size, tapeOf(size), x -> x.hash(MAX), -2);
        }
    }

    private static void mac() {
        TEST.sentence("Promise 9 (mac)", "OUT is HMAC of n bytes of the tape by a KEY: 32",
                BoundaryPrimitivesTest::macOfSizes);
        TEST.sentence("Promise 9 (mac)", "-2, doing nothing: no such KEY", BoundaryPrimitivesTest::macNoKey);
        TEST.sentence("Promise 9 (mac)", "n as in hash()", BoundaryPrimitivesTest::macOutOfBounds);
    }

    private static void macOfSizes() {
        byte[] all = Sizes.bytes(FULL);
        for (int k : KEY_ENDS) {
            for (int n : new int[] {0, 1, 55, 56, 63, 64, 999, FULL}) {
                NoiseEngine x = Sizes.fed(withKeys(), all);
                TEST.due("mac(" + k + ", " + n + ") of 1,000", x.mac(k, n), 32);
                TEST.due("OUT then", Check.outHex(x), Reference.hmac(keyOf(k), Reference.part(all, 0, n)));
                TEST.due("the tape then", x.count(0), 0);
            }
        }
    }

    private static void macNoKey() {
        for (int k : NO_KEYS) {
            TEST.doesNothing("mac(" + k + ", 0) of 0", tapeOf(0), x -> x.mac(k, 0), -2);
            TEST.doesNothing("mac(" + k + ", 20) of 20", tapeOf(20), x -> x.mac(k, 20), -2);
        }
    }

    private static void macOutOfBounds() {
        for (int size : new int[] {0, 20, FULL}) {
            for (int n : new int[] {-1, MIN, size + 1, MAX}) {
                TEST.doesNothing("mac(0, " + n + ") of " + size, tapeOf(size), x -> x.mac(0, n), -2);
                TEST.doesNothing("mac(7, " + n + ") of " + size, tapeOf(size), x -> x.mac(7, n), -2);
            }
        }
    }

    private static void seal() {
        TEST.sentence("Promise 10 (seal)",
                "OUT is what AEAD seals by a KEY and n: of the tape a bytes of associated data, then b bytes: b + 16",
                BoundaryPrimitivesTest::sealSizes);
        TEST.sentence("Promise 10 (seal)", "-2, doing nothing: no such KEY", BoundaryPrimitivesTest::sealNoKey);
        TEST.sentence("Promise 10 (seal)", "a or b is below 0", BoundaryPrimitivesTest::sealBelow0);
        TEST.sentence("Promise 10 (seal)", "b is above 984", BoundaryPrimitivesTest::sealAbove984);
        TEST.sentence("Promise 10 (seal)", "or there are fewer", BoundaryPrimitivesTest::sealOfFewer);
    }

    private static void sealSizes() {
        int[][] sizes = {
            {0, 0}, {0, 1}, {1, 0}, {15, 15}, {16, 16}, {17, 17}, {0, 63}, {0, 64}, {0, 65}, {0, 983}, {0, 984},
            {15, 984}, {16, 984}, {16, 983}, {17, 983}, {999, 0}, {999, 1}, {FULL, 0},
        };
        byte[] all = Sizes.bytes(FULL);
        for (int k : KEY_ENDS) {
            for (int[] size : sizes) {
                int a = size[0];
                int b = size[1];
                NoiseEngine x = Sizes.fed(withKeys(), all);
                TEST.due("seal(" + k + ", 5, " + a + ", " + b + ")", x.seal(k, 5, a, b), b + 16);
                TEST.due("the tape then", x.count(0), 0);
                TEST.dueOut("seal", x,
                        Reference.seal(keyOf(k), 5, Reference.part(all, 0, a), Reference.part(all, a, b)));
            }
        }
    }

    private static void sealNoKey() {
        for (int k : NO_KEYS) {
            TEST.doesNothing("seal(" + k + ", 0, 0, 0) of 0", tapeOf(0), x -> x.seal(k, 0, 0, 0), -2);
            TEST.doesNothing("seal(" + k + ", 0, 16, 984)", tapeOf(FULL), x -> x.seal(k, 0, 16, 984), -2);
        }
    }

    private static void sealBelow0() {
        int[][] sizes = {{-1, 0}, {-1, 5}, {0, -1}, {5, -1}, {-1, -1}, {MIN, 0}, {0, MIN}, {MIN, MIN}, {-984, 984}};
        for (int[] ab : sizes) {
            for (int size : new int[] {0, 20, FULL}) {
                TEST.doesNothing("seal(0, 0, " + ab[0] + ", " + ab[1] + ") of " + size, tapeOf(size),
                        x -> x.seal(0, 0, ab[0], ab[1]), -2);
            }
        }
    }

    /** There are enough, and yet it is too much. */
    private static void sealAbove984() {
        int[][] sizes = {{0, 985}, {15, 985}, {0, 999}, {1, 999}, {0, FULL}};
        for (int[] ab : sizes) {
            TEST.doesNothing("seal(0, 0, " + ab[0] + ", " + ab[1] + ") of 1,000", tapeOf(FULL),
                    x -> x.seal(0, 0, ab[0], ab[1]), -2);
        }
    }

    /** One more than there are, by a, by b or by both; a sum that wraps around is more, too. */
    private static void sealOfFewer() {
        int[][] sizes = {
            {0, 0, 1}, {0, 1, 0}, {20, 0, 21}, {20, 21, 0}, {20, 10, 11}, {20, 1, 20}, {20, 20, 1}, {983, 0, 984},
            {FULL, 17, 984}, {FULL, 984, 17}, {FULL, FULL, 1}, {FULL, 1001, 0}, {20, MAX, 1}, {20, MAX, 2},
            {20, MAX, 20}, {20, MAX, MAX}, {20, 2, MAX}, {FULL, MAX, 984},
        };
        for (int[] sab : sizes) {
            TEST.doesNothing("seal(0, 0, " + sab[1] + ", " + sab[2] + ") of " + sab[0], tapeOf(sab[0]),
                    x -> x.seal(0, 0, sab[1], sab[2]), -2);
        }
    }

    private static void open() {
        TEST.sentence("Promise 11 (open)", "OUT is what AEAD opens, likewise (b with the last 16): b - 16",
                BoundaryPrimitivesTest::openSizes);
        TEST.sentence("Promise 11 (open)", "NONE, OUT stays: refused", BoundaryPrimitivesTest::openRefused);
        TEST.sentence("Promise 11 (open)", "(also b below 16)", BoundaryPrimitivesTest::openBelow16);
        TEST.sentence("Promise 11 (open)", "-2, doing nothing: no such KEY", BoundaryPrimitivesTest::openNoKey);
        TEST.sentence("Promise 11 (open)", "a or b is below 0", BoundaryPrimitivesTest::openBelow0);
        TEST.sentence("Promise 11 (open)", "or there are fewer", BoundaryPrimitivesTest::openOfFewer);
    }

    /** Up to a full tape: b has no bound of its own, unlike seal()'s. */
    private static void openSizes() {
        int[][] sizes = {
            {0, 16}, {0, 17}, {1, 16}, {15, 31}, {16, 32}, {17, 33}, {0, 80}, {0, 81}, {984, 16}, {983, 17}, {0, 984},
            {0, 985}, {16, 984}, {1, 999}, {0, 999}, {0, FULL},
        };
        for (int k : KEY_ENDS) {
            for (int[] size : sizes) {
                byte[] associated = Sizes.bytes(size[0]);
                byte[] plain = Sizes.bytes(size[1] - 16);
                byte[] sealed = Reference.seal(keyOf(k), 5, associated, plain);
                NoiseEngine x = Sizes.fed(withKeys(), associated, sealed);
                TEST.due("open(" + k + ", 5, " + size[0] + ", " + size[1] + ")", x.open(k, 5, size[0], size[1]),
                        plain.length);
                TEST.due("the tape then", x.count(0), 0);
                TEST.dueOut("open", x, plain);
            }
        }
    }

    /** By the first or last byte of each part, another KEY, n or size. */
    private static void openRefused() {
        byte[] associated = Sizes.bytes(20);
        byte[] sealed = Reference.seal(keyOf(3), 5, associated, Sizes.bytes(24));
        Supplier<NoiseEngine> whole = () -> Sizes.fed(withKeys(), associated, sealed);
        for (int at : new int[] {0, 19, 20, 43, 44, 59}) {
            TEST.takesTapeAlone("open with byte " + at + " changed", () -> {
                NoiseEngine x = whole.get();
                x.patch(at, Reference.join(associated, sealed)[at] ^ (at % 2 == 0 ? 1 : 128));
                return x;
            }, x -> x.open(3, 5, 20, 40));
        }
        TEST.takesTapeAlone("open by another KEY", whole, x -> x.open(4, 5, 20, 40));
        TEST.takesTapeAlone("open by n - 1", whole, x -> x.open(3, 4, 20, 40));
        TEST.takesTapeAlone("open by n + 1", whole, x -> x.open(3, 6, 20, 40));
        TEST.takesTapeAlone("open by n + 2 to the 32", whole, x -> x.open(3, 5 + (1L << 32), 20, 40));
        TEST.takesTapeAlone("open of one less", whole, x -> x.open(3, 5, 20, 39));
        TEST.takesTapeAlone("open with one associated byte less", whole, x -> x.open(3, 5, 19, 41));
        TEST.takesTapeAlone("open with one associated byte more", whole, x -> x.open(3, 5, 21, 39));
        TEST.due("open of it all", whole.get().open(3, 5, 20, 40), 24);
        NoiseEngine x = Sizes.tape(new NoiseEngine(), FULL);
        TEST.due("open of a full tape of no seal", x.open(0, 1, 0, FULL), -1);
        TEST.due("the tape then", x.count(0), 0);
        TEST.due("OUT then", x.count(1), FULL);
    }

    private static void openBelow16() {
        for (int b = 0; b < 16; b++) {
            int size = b;
            TEST.takesTapeAlone("open(0, 0, 0, " + b + ") of 20", tapeOf(20), x -> x.open(0, 0, 0, size));
            TEST.takesTapeAlone("open(7, 0, 5, " + b + ") of 1,000", tapeOf(FULL), x -> x.open(7, 0, 5, size));
        }
        TEST.takesTapeAlone("open(0, 0, 0, 0) of 0", tapeOf(0), x -> x.open(0, 0, 0, 0));
        TEST.takesTapeAlone("open(0, 0, 1000, 0) of 1,000", tapeOf(FULL), x -> x.open(0, 0, FULL, 0));
    }

    private static void openNoKey() {
        for (int k : NO_KEYS) {
            TEST.doesNothing("open(" + k + ", 0, 0, 0) of 0", tapeOf(0), x -> x.open(k, 0, 0, 0), -2);
            TEST.doesNothing("open(" + k + ", 0, 4, 16) of 20", tapeOf(20), x -> x.open(k, 0, 4, 16), -2);
        }
    }

    private static void openBelow0() {
        int[][] sizes = {{-1, 0}, {-1, 16}, {0, -1}, {5, -1}, {-1, -1}, {MIN, 16}, {16, MIN}, {MIN, MIN}, {-16, 16}};
        for (int[] ab : sizes) {
            for (int size : new int[] {0, 20, FULL}) {
                TEST.doesNothing("open(0, 0, " + ab[0] + ", " + ab[1] + ") of " + size, tapeOf(size),
                        x -> x.open(0, 0, ab[0], ab[1]), -2);
            }
        }
    }

    private static void openOfFewer() {
        int[][] sizes = {
            {0, 0, 1}, {0, 1, 0}, {15, 0, 16}, {20, 0, 21}, {20, 21, 0}, {20, 5, 16}, {20, 4, 17}, {20, 20, 1},
            {FULL, 0, 1001}, {FULL, 1, FULL}, {FULL, 985, 16}, {FULL, FULL, 1}, {FULL, 1001, 0}, {20, MAX, 1},
            {20, MAX, 16}, {20, MAX, 20}, {20, MAX, MAX}, {20, 16, MAX},
        };
        for (int[] sab : sizes) {
            TEST.doesNothing("open(0, 0, " + sab[1] + ", " + sab[2] + ") of " + sab[0], tapeOf(sab[0]),
                    x -> x.open(0, 0, sab[1], sab[2]), -2);
        }
    }
}
