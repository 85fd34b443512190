/** The boundary sentences of promises 1 to 6, 20 and 21: a new object, the tape, the KEYS, OUT. */
public final class BoundaryTapeTest {
    private static final Boundary TEST = new Boundary("BoundaryTapeTest");
    private static final int[] NO_KEYS = {-1, 8, Integer.MIN_VALUE, Integer.MAX_VALUE};
    private static final int FULL = Sizes.FULL;

    public static void main(String[] args) {
        newObject();
        feed();
        turn();
        patch();
        key();
        take();
        out();
        count();
        TEST.end();
    }

    private static void newObject() {
        TEST.sentence("Promise 1 (new)", "An empty tape", BoundaryTapeTest::newTape);
        TEST.sentence("Promise 1 (new)", "an empty OUT", BoundaryTapeTest::newOut);
        TEST.sentence("Promise 1 (new)", "KEYS of 0", BoundaryTapeTest::newKeys);
        TEST.sentence("Promise 1 (new)", "no sessions", BoundaryTapeTest::newSessions);
    }

    private static void newTape() {
        TEST.due("count(0)", new NoiseEngine().count(0), 0);
        TEST.due("patch(0, 1)", new NoiseEngine().patch(0, 1), false);
        TEST.due("hash(1)", new NoiseEngine().hash(1), -2);
        TEST.due("hash(0)", new NoiseEngine().hash(0), 32);
        TEST.due("the first feed", new NoiseEngine().feed(1, 2, 3, 4, 5), 20);
    }

    private static void newOut() {
        TEST.due("count(1)", new NoiseEngine().count(1), 0);
        TEST.due("out(0)", new NoiseEngine().out(0), -1);
        TEST.due("turn()", new NoiseEngine().turn(), 0);
        TEST.due("take(0)", new NoiseEngine().take(0), false);
    }

    private static void newKeys() {
        for (int k = 0; k < 8; k++) {
            NoiseEngine x = new NoiseEngine();
            x.mac(k, 0);
            TEST.due("mac(" + k + ", 0)", Check.outHex(x), Reference.hmac(new byte[32], new byte[0]));
        }
    }

    private static void newSessions() {
        for (int s = 0; s < 4; s++) {
            NoiseEngine x = new NoiseEngine();
            for (int what = 0; what < 6; what++) {
                TEST.due("state(" + s + ", " + what + ")", x.state(s, what), -1);
            }
            for (int which = 0; which < 3; which++) {
                TEST.due("told(" + s + ", " + which + ", 0)", x.told(s, which, 0), -1);
            }
            TEST.due("write(" + s + ", 0)", x.write(s, 0), -2);
            TEST.due("read(" + s + ", 0)", x.read(s, 0), -2);
            TEST.due("send(" + s + ", 0)", x.send(s, 0), -2);
            TEST.due("receive(" + s + ", 0)", x.receive(s, 0), -2);
            TEST.due("rekey(" + s + ", true)", x.rekey(s, true), false);
        }
    }

    private static void feed() {
        TEST.sentence("Promise 2 (feed)", "Twenty bytes come behind those on the tape", BoundaryTapeTest::feedBehind);
        TEST.sentence("Promise 2 (feed)", "of each number the highest first", BoundaryTapeTest::feedOrder);
        TEST.sentence("Promise 2 (feed)", "how many there are", BoundaryTapeTest::feedToFull);
        TEST.sentence("Promise 2 (feed)", "NONE, doing nothing: there would be more than 1,000",
                BoundaryTapeTest::feedBeyondFull);
    }

    private static void feedBehind() {
        for (int before : new int[] {0, 1, 31, 979, 980}) {
            NoiseEngine x = Sizes.out(new NoiseEngine(), before);
            x.turn();
            TEST.due("feed on a tape of " + before, x.feed(0, 0, 0x01020304, 0, -1), before + 20);
            TEST.due("count(0) then", x.count(0), before + 20);
            x.hash(before + 20);
            byte[] twenty = Check.bytes("00000000000000000102030400000000ffffffff");
            TEST.due("the tape then", Check.outHex(x), Reference.sha256(Reference.join(Sizes.outOf(before), twenty)));
        }
    }

    private static void feedOrder() {
        NoiseEngine x = new NoiseEngine();
        x.feed(Integer.MIN_VALUE, Integer.MAX_VALUE, -1, 0x000000ff, 0xff000000);
        x.hash(20);
        TEST.due("the ends of the numbers", Check.outHex(x),
                Reference.sha256(Check.bytes("800000007fffffffffffffff000000ffff000000")));
    }

    private static void feedToFull() {
        NoiseEngine x = new NoiseEngine();
        for (int size = 20; size <= FULL; size += 20) {
            TEST.due("feed to " + size, x.feed(size, size, size, size, size), size);
            TEST.due("count(0) at " + size, x.count(0), size);
        }
    }

    private static void feedBeyondFull() {
        for (int size : new int[] {981, 982, 990, 999, FULL}) {
            TEST.doesNothing("feed on a tape of " + size, () -> Sizes.tape(new NoiseEngine(), size),
                    x -> x.feed(1, 2, 3, 4, 5), -1);
        }
        NoiseEngine x = Sizes.tape(new NoiseEngine(), 981);
        TEST.due("once too many", x.feed(1, 2, 3, 4, 5), -1);
        TEST.due("and once more", x.feed(1, 2, 3, 4, 5), -1);
        x.hash(0);
        TEST.due("the tape takes more when it is empty again", x.feed(1, 2, 3, 4, 5), 20);
    }

    private static void turn() {
        TEST.sentence("Promise 3 (turn)", "The OUT comes on the tape", BoundaryTapeTest::turnEachSize);
        TEST.sentence("Promise 3 (turn)", "in place of what was there", BoundaryTapeTest::turnInPlace);
        TEST.sentence("Promise 3 (turn)", "how many bytes", BoundaryTapeTest::turnAgain);
    }

    private static void turnEachSize() {
        for (int size : new int[] {0, 1, 15, 16, 32, 984, 999, FULL}) {
            NoiseEngine x = Sizes.out(new NoiseEngine(), size);
            byte[] due = Sizes.outOf(size);
            TEST.due("turn of an OUT of " + size, x.turn(), size);
            TEST.due("count(0) then", x.count(0), size);
            TEST.due("count(1) then: OUT stays", x.count(1), size);
            TEST.due("out(size - 1) then: OUT stays", x.out(size - 1), size == 0 ? -1 : due[size - 1] & 0xff);
            x.hash(size);
            TEST.due("the tape then", Check.outHex(x), Reference.sha256(due));
        }
    }

    private static void turnInPlace() {
        for (int size : new int[] {0, 1, 32, FULL}) {
            NoiseEngine x = Sizes.out(new NoiseEngine(), size);
            for (int i = 0; i < 50; i++) {
                x.feed(i, i, i, i, i);
            }
            TEST.due("turn of an OUT of " + size + " on a full tape", x.turn(), size);
            TEST.due("the last byte is there", x.patch(size - 1, 0), size > 0);
            TEST.due("none is behind it", x.patch(size, 0), false);
        }
    }

    private static void turnAgain() {
        NoiseEngine x = Sizes.out(new NoiseEngine(), 33);
        String out = Check.outHex(x);
        TEST.due("turn()", x.turn(), 33);
        x.patch(0, x.out(0) + 1);
        x.patch(32, x.out(32) + 1);
        TEST.due("a patched tape is not OUT", Check.outHex(x), out);
        TEST.due("turn() again", x.turn(), 33);
        x.hash(33);
        TEST.due("the tape is OUT again", Check.outHex(x), Reference.sha256(Check.bytes(out)));
        TEST.due("turn() of the hash", x.turn(), 32);
    }

    private static void patch() {
        TEST.sentence("Promise 4 (patch)", "Byte k of the tape becomes v", BoundaryTapeTest::patchEnds);
        TEST.sentence("Promise 4 (patch)", "(its lowest 8 bits)", BoundaryTapeTest::patchLowestBits);
        TEST.sentence("Promise 4 (patch)", "False: there is none", BoundaryTapeTest::patchNone);
    }

    private static void patchEnds() {
        for (int size : new int[] {1, 20, 21, 999, FULL}) {
            for (int k : new int[] {0, size - 1}) {
                NoiseEngine x = Sizes.out(new NoiseEngine(), size);
                byte[] due = Sizes.outOf(size);
                x.turn();
                due[k] ^= 0x55;
                TEST.due("patch(" + k + ", ..) of " + size, x.patch(k, due[k]), true);
                TEST.due("count(0) then", x.count(0), size);
                x.hash(size);
                TEST.due("the tape then", Check.outHex(x), Reference.sha256(due));
            }
        }
    }

    private static void patchLowestBits() {
        int[] values = {0, 1, 127, 128, 255, 256, 257, -1, -128, -129, -256, Integer.MIN_VALUE, Integer.MAX_VALUE};
        for (int v : values) {
            NoiseEngine x = new NoiseEngine();
            x.feed(0x11223344, 0x55667788, 0x99aabbcc, 0xddeeff00, 0x12345678);
            TEST.due("patch(4, " + v + ")", x.patch(4, v), true);
            x.hash(20);
            byte[] due = Check.bytes("112233445566778899aabbccddeeff0012345678");
            due[4] = (byte) (v & 255);
            TEST.due("the tape then", Check.outHex(x), Reference.sha256(due));
        }
    }

    private static void patchNone() {
        for (int size : new int[] {0, 1, 20, 999, FULL}) {
            for (int k : new int[] {-1, size, size + 1, Integer.MIN_VALUE, Integer.MAX_VALUE}) {
                TEST.isFalse("patch(" + k + ", 7) of " + size, () -> Sizes.tape(new NoiseEngine(), size),
                        x -> x.patch(k, 7));
            }
        }
        NoiseEngine x = Sizes.tape(new NoiseEngine(), FULL);
        x.hash(1);
        TEST.due("patch(0, 7) of a tape that was emptied", x.patch(0, 7), false);
        TEST.due("patch(999, 7) of a tape that was emptied", x.patch(999, 7), false);
        x.feed(0, 0, 0, 0, 0);
        TEST.due("patch(20, 7) behind a new beginning", x.patch(20, 7), false);
    }

    private static void key() {
        TEST.sentence("Promise 5 (key)", "32 bytes of the tape become a KEY", BoundaryTapeTest::keyOfFirst);
        TEST.sentence("Promise 5 (key)", "False, doing nothing: no such KEY", BoundaryTapeTest::keyNone);
        TEST.sentence("Promise 5 (key)", "or there are fewer", BoundaryTapeTest::keyOfFewer);
    }

    private static void keyOfFirst() {
        for (int size : new int[] {32, 33, 40, FULL}) {
            for (int k : new int[] {0, 7}) {
                NoiseEngine x = Sizes.out(new NoiseEngine(), size);
                byte[] all = Sizes.outOf(size);
                x.turn();
                TEST.due("key(" + k + ") of " + size, x.key(k), true);
                TEST.due("the tape then", x.count(0), 0);
                TEST.due("OUT then", x.count(1), size);
                expectKeys(x, k, Reference.part(all, 0, 32));
            }
        }
    }

    private static void keyNone() {
        for (int k : NO_KEYS) {
            TEST.isFalse("key(" + k + ") of 32", () -> Sizes.tape(new NoiseEngine(), 32), x -> x.key(k));
            TEST.isFalse("key(" + k + ") of 1,000", () -> Sizes.tape(new NoiseEngine(), FULL), x -> x.key(k));
        }
    }

    private static void keyOfFewer() {
        for (int size : new int[] {0, 1, 20, 31}) {
            for (int k : new int[] {0, 7}) {
                TEST.isFalse("key(" + k + ") of " + size, () -> Sizes.tape(new NoiseEngine(), size), x -> x.key(k));
            }
        }
        // What stood there before doesn't count.
        NoiseEngine x = Sizes.tape(new NoiseEngine(), FULL);
        x.hash(0);
        x.feed(1, 2, 3, 4, 5);
        TEST.due("key(0) of 20 where 1,000 were", x.key(0), false);
    }

    private static void take() {
        TEST.sentence("Promise 6 (take)", "A KEY becomes the first 32 bytes of OUT", BoundaryTapeTest::takeFirst);
        TEST.sentence("Promise 6 (take)", "False, doing nothing: no such KEY", BoundaryTapeTest::takeNone);
        TEST.sentence("Promise 6 (take)", "or there are fewer", BoundaryTapeTest::takeOfFewer);
    }

    private static void takeFirst() {
        for (int size : new int[] {32, 33, 999, FULL}) {
            for (int k : new int[] {0, 7}) {
                NoiseEngine x = Sizes.out(new NoiseEngine(), size);
                byte[] all = Sizes.outOf(size);
                x.feed(1, 2, 3, 4, 5);
                TEST.due("take(" + k + ") of " + size, x.take(k), true);
                TEST.due("the tape stays", x.count(0), 20);
                TEST.due("OUT stays", x.count(1), size);
                TEST.due("the last of OUT stays", x.out(size - 1), all[size - 1] & 0xff);
                expectKeys(x, k, Reference.part(all, 0, 32));
            }
        }
    }

    private static void takeNone() {
        for (int k : NO_KEYS) {
            TEST.isFalse("take(" + k + ") of 32", () -> Sizes.tape(new NoiseEngine(), 32), x -> x.take(k));
            TEST.isFalse("take(" + k + ") of 1,000", () -> Sizes.tape(new NoiseEngine(), FULL), x -> x.take(k));
        }
    }

    private static void takeOfFewer() {
        for (int size : new int[] {0, 1, 16, 31}) {
            for (int k : new int[] {0, 7}) {
                // A longer tape doesn't help.
                TEST.isFalse("take(" + k + ") of " + size, () -> {
                    NoiseEngine x = Sizes.out(new NoiseEngine(), size);
                    Check.feed(x, Sizes.bytes(40));
                    return x;
                }, x -> x.take(k));
            }
        }
    }

    /** KEY k is this one and the others are 0 still. */
    private static void expectKeys(NoiseEngine x, int k, byte[] key) {
        for (int i = 0; i < 8; i++) {
            x.mac(i, 0);
            TEST.due("KEY " + i, Check.outHex(x), Reference.hmac(i == k ? key : new byte[32], new byte[0]));
        }
    }

    private static void out() {
        TEST.sentence("Promise 20 (out)", "Byte k of OUT", BoundaryTapeTest::outEnds);
        TEST.sentence("Promise 20 (out)", "NONE: there is none", BoundaryTapeTest::outNone);
    }

    /** The payload of a message 0 comes into OUT as it is: so OUT has every byte there is. */
    private static void outEnds() {
        byte[] all = new byte[256];
        for (int i = 0; i < 256; i++) {
            all[i] = (byte) i;
        }
        NoiseEngine x = new NoiseEngine();
        x.start(0, false, 0, 0, 0);
        Check.feed(x, Reference.join(new byte[32], all));
        x.read(0, 288);
        for (int k = 0; k < 256; k++) {
            TEST.due("out(" + k + ")", x.out(k), k);
        }
        for (int size : new int[] {1, 32, 999, FULL}) {
            NoiseEngine y = Sizes.out(new NoiseEngine(), size);
            byte[] due = Sizes.outOf(size);
            TEST.due("out(0) of " + size, y.out(0), due[0] & 0xff);
            TEST.due("out(last) of " + size, y.out(size - 1), due[size - 1] & 0xff);
        }
    }

    private static void outNone() {
        for (int size : new int[] {0, 1, 32, 999, FULL}) {
            for (int k : new int[] {-1, size, size + 1, Integer.MIN_VALUE, Integer.MAX_VALUE}) {
                TEST.doesNothing("out(" + k + ") of " + size, () -> Sizes.tape(new NoiseEngine(), size),
                        x -> x.out(k), -1);
            }
        }
        NoiseEngine x = Sizes.out(new NoiseEngine(), FULL);
        x.hash(0);
        TEST.due("out(32) of 32 where 1,000 were", x.out(32), -1);
    }

    private static void count() {
        TEST.sentence("Promise 21 (count)", "How many bytes are on the tape (0), in OUT (1)",
                BoundaryTapeTest::countBoth);
        TEST.sentence("Promise 21 (count)", "NONE for others", BoundaryTapeTest::countOthers);
    }

    private static void countBoth() {
        for (int size : new int[] {0, 1, 20, 999, FULL}) {
            NoiseEngine x = Sizes.tape(new NoiseEngine(), size);
            TEST.due("count(0) of " + size, x.count(0), size);
            TEST.due("count(1) of " + size, x.count(1), size);
            x.curve(0, true);
            TEST.due("count(1) of 32", x.count(1), 32);
            NoiseEngine y = Sizes.out(new NoiseEngine(), size);
            TEST.due("count(0) of none", y.count(0), 0);
            TEST.due("count(1) of " + size, y.count(1), size);
        }
    }

    private static void countOthers() {
        for (int what : new int[] {-1, 2, Integer.MIN_VALUE, Integer.MAX_VALUE}) {
            TEST.doesNothing("count(" + what + ")", () -> Sizes.tape(new NoiseEngine(), 20), x -> x.count(what), -1);
        }
    }
}
