/** Promises 1 to 6, 20 and 21: the tape, OUT and the KEYS. */
public final class TapeTest {
    private static final Check CHECK = new Check("TapeTest");
    private static final String EMPTY_HASH = "e3b0c44298fc1c149afbf4c8996fb92427ae41e4649b934ca495991b7852b855";

    public static void main(String[] args) {
        newObject();
        feed();
        turn();
        patch();
        key();
        take();
        out();
        count();
        CHECK.end();
    }

    private static void newObject() {
        NoiseEngine x = new NoiseEngine();
        CHECK.due("NONE", NoiseEngine.NONE, -1);
        CHECK.due("new: count(0)", x.count(0), 0);
        CHECK.due("new: count(1)", x.count(1), 0);
        CHECK.due("new: out(0)", x.out(0), -1);
        CHECK.due("new: patch(0, 1)", x.patch(0, 1), false);
        CHECK.due("new: turn()", x.turn(), 0);
        for (int s = 0; s < 4; s++) {
            for (int what = 0; what < 6; what++) {
                CHECK.due("new: state(" + s + ", " + what + ")", x.state(s, what), -1);
            }
            for (int which = 0; which < 3; which++) {
                CHECK.due("new: told(" + s + ", " + which + ", 0)", x.told(s, which, 0), -1);
            }
            CHECK.due("new: write", x.write(s, 0), -2);
            CHECK.due("new: read", x.read(s, 0), -2);
            CHECK.due("new: send", x.send(s, 0), -2);
            CHECK.due("new: receive", x.receive(s, 0), -2);
            CHECK.due("new: rekey", x.rekey(s, true), false);
        }
        for (int k = 0; k < 8; k++) {
            CHECK.due("new: mac(k, 0)", x.mac(k, 0), 32);
            CHECK.due("new: a KEY is 0", Check.outHex(x),
                    "b613679a0814d9ec772f95d778c35fc5ff1697c493715653c6c712144292c5ad");
        }
    }

    private static void feed() {
        NoiseEngine x = new NoiseEngine();
        CHECK.due("feed", x.feed(0x00010203, 0x04050607, 0x08090a0b, 0x0c0d0e0f, 0xf0f1f2f3), 20);
        CHECK.due("feed", x.feed(-1, 0, Integer.MIN_VALUE, Integer.MAX_VALUE, 1), 40);
        CHECK.due("hash of what was fed", x.hash(40), 32);
        CHECK.due("hash of what was fed", Check.outHex(x), Reference.hex(Reference.sha256(Check.bytes(
                "000102030405060708090a0b0c0d0e0ff0f1f2f3ffffffff00000000800000007fffffff00000001"))));
        for (int i = 1; i <= 50; i++) {
            CHECK.due("feed to " + 20 * i, x.feed(i, i, i, i, i), 20 * i);
        }
        CHECK.due("feed beyond 1,000", x.feed(9, 9, 9, 9, 9), -1);
        CHECK.due("feed beyond 1,000: the tape stays", x.count(0), 1000);
        CHECK.due("feed beyond 1,000: OUT stays", x.count(1), 32);
        CHECK.due("all of a full tape", x.hash(1000), 32);
        byte[] full = new byte[1000];
        for (int i = 0; i < 250; i++) {
            full[4 * i + 3] = (byte) (i / 5 + 1);
        }
        CHECK.due("all of a full tape", Check.outHex(x), Reference.hex(Reference.sha256(full)));

        NoiseEngine y = new NoiseEngine();
        for (int i = 0; i < 49; i++) {
            y.feed(0, 0, 0, 0, 0);
        }
        y.seal(0, 0, 0, 965);
        CHECK.due("turn to 981", y.turn(), 981);
        CHECK.due("feed from 981 would be 1,001", y.feed(1, 2, 3, 4, 5), -1);
        CHECK.due("feed from 981 does nothing", y.count(0), 981);
    }

    private static void turn() {
        NoiseEngine x = new NoiseEngine();
        x.feed(1, 2, 3, 4, 5);
        CHECK.due("turn of an empty OUT", x.turn(), 0);
        CHECK.due("turn of an empty OUT: the tape", x.count(0), 0);
        x.hash(0);
        x.feed(1, 2, 3, 4, 5);
        x.feed(1, 2, 3, 4, 5);
        CHECK.due("turn", x.turn(), 32);
        CHECK.due("turn: OUT stays", Check.outHex(x), EMPTY_HASH);
        CHECK.due("turn: feed comes behind", x.feed(0, 0, 0, 0, 0), 52);
        CHECK.due("turn again", x.turn(), 32);
        x.patch(0, 0);
        CHECK.due("patch leaves OUT alone", Check.outHex(x), EMPTY_HASH);
        x.turn();
        x.hash(32);
        CHECK.due("what turn put on the tape", Check.outHex(x),
                Reference.hex(Reference.sha256(Check.bytes(EMPTY_HASH))));
    }

    private static void patch() {
        NoiseEngine x = new NoiseEngine();
        x.feed(0, 0, 0, 0, 0);
        CHECK.due("patch(-1)", x.patch(-1, 1), false);
        CHECK.due("patch(20) of 20", x.patch(20, 1), false);
        CHECK.due("patch(MIN)", x.patch(Integer.MIN_VALUE, 1), false);
        CHECK.due("patch(MAX)", x.patch(Integer.MAX_VALUE, 1), false);
        CHECK.due("patch(0)", x.patch(0, 0x1ff), true);
        CHECK.due("patch(7)", x.patch(7, -128), true);
        CHECK.due("patch(19)", x.patch(19, 0x12345678), true);
        CHECK.due("patch: count", x.count(0), 20);
        x.hash(20);
        CHECK.due("patched tape", Check.outHex(x), Reference.hex(Reference.sha256(Check.bytes(
                "ff00000000000080000000000000000000000078"))));
        CHECK.due("patch of a tape that was emptied", x.patch(0, 1), false);
    }

    private static void key() {
        NoiseEngine x = new NoiseEngine();
        CHECK.due("key of nothing", x.key(0), false);
        x.feed(1, 2, 3, 4, 5);
        CHECK.due("key of 20 bytes", x.key(0), false);
        CHECK.due("key of 20 bytes does nothing", x.count(0), 20);
        x.feed(6, 7, 8, 9, 10);
        for (int k : new int[] {-1, 8, Integer.MIN_VALUE, Integer.MAX_VALUE}) {
            CHECK.due("key(" + k + ")", x.key(k), false);
        }
        CHECK.due("no such KEY: does nothing", x.count(0), 40);
        CHECK.due("key(7)", x.key(7), true);
        CHECK.due("key(7) empties the tape", x.count(0), 0);
        CHECK.due("key(7) leaves OUT", x.count(1), 0);
        expectKey(x, 7, "0000000100000002000000030000000400000005000000060000000700000008");
        expectKey(x, 0, "00".repeat(32));
        expectKey(x, 6, "00".repeat(32));
        x.hash(0);
        x.turn();
        CHECK.due("key of exactly 32", x.key(0), true);
        expectKey(x, 0, EMPTY_HASH);
        expectKey(x, 7, "0000000100000002000000030000000400000005000000060000000700000008");
    }

    private static void take() {
        NoiseEngine x = new NoiseEngine();
        CHECK.due("take of nothing", x.take(0), false);
        x.feed(0, 0, 0, 0, 0);
        x.seal(0, 0, 0, 15);
        CHECK.due("take of 31", x.take(0), false);
        expectKey(x, 0, "00".repeat(32));
        x.feed(0, 0, 0, 0, 0);
        x.seal(0, 0, 0, 20);
        String sealed = Check.outHex(x);
        x.feed(1, 2, 3, 4, 5);
        for (int k : new int[] {-1, 8, Integer.MIN_VALUE, Integer.MAX_VALUE}) {
            CHECK.due("take(" + k + ")", x.take(k), false);
        }
        CHECK.due("take(7)", x.take(7), true);
        CHECK.due("take(3)", x.take(3), true);
        CHECK.due("take: OUT stays", Check.outHex(x), sealed);
        CHECK.due("take: the tape stays", x.count(0), 20);
        expectKey(x, 7, sealed.substring(0, 64));
        expectKey(x, 3, sealed.substring(0, 64));
        expectKey(x, 4, "00".repeat(32));
        x.hash(0);
        CHECK.due("take of exactly 32", x.take(4), true);
        expectKey(x, 4, EMPTY_HASH);
    }

    private static void out() {
        NoiseEngine x = new NoiseEngine();
        x.hash(0);
        CHECK.due("out(-1)", x.out(-1), -1);
        CHECK.due("out(0)", x.out(0), 0xe3);
        CHECK.due("out(31)", x.out(31), 0x55);
        CHECK.due("out(32)", x.out(32), -1);
        CHECK.due("out(MIN)", x.out(Integer.MIN_VALUE), -1);
        CHECK.due("out(MAX)", x.out(Integer.MAX_VALUE), -1);
        x.seal(0, 0, 0, 0);
        CHECK.due("out(15) of 16", x.out(15) >= 0, true);
        CHECK.due("out(16) of 16: what was there is gone", x.out(16), -1);
    }

    private static void count() {
        NoiseEngine x = new NoiseEngine();
        x.feed(0, 0, 0, 0, 0);
        x.hash(0);
        x.feed(0, 0, 0, 0, 0);
        CHECK.due("count(0)", x.count(0), 20);
        CHECK.due("count(1)", x.count(1), 32);
        for (int what : new int[] {-1, 2, 3, Integer.MIN_VALUE, Integer.MAX_VALUE}) {
            CHECK.due("count(" + what + ")", x.count(what), -1);
        }
    }

    /** A KEY is seen by what it authenticates; the OUT and tape of the engine are lost by that. */
    private static void expectKey(NoiseEngine x, int k, String hex) {
        x.mac(k, 0);
        CHECK.due("KEY " + k, Check.outHex(x), Reference.hex(Reference.hmac(Check.bytes(hex), new byte[0])));
    }
}
