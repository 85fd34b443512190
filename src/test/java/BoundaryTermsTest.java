import java.math.BigInteger;
import java.util.function.Predicate;
import java.util.function.Supplier;
import java.util.function.ToIntFunction;

/** The boundary sentences of the document's 'What it is', 'Terms' and constants. */
public final class BoundaryTermsTest {
    private static final Boundary TEST = new Boundary("BoundaryTermsTest");
    private static final int FULL = Sizes.FULL;
    private static final byte[] NOTHING = {};
    private static final int[] NO_KEYS = {-1, 8};
    private static final int[] NO_SESSIONS = {-1, 4};
    /** Its bits that X25519 does not use are neither all 0 nor all 1. */
    private static final byte[] SCALAR =
            Check.bytes("a546e36bf0527c9d3b16154b82465edd62144c0ac1fc5a18506a2244ba449ac4");
    private static final byte[] POINT =
            Check.bytes("e6db6867583030db3594c1a424b15f7c726624ec26b3353b10a903a6d0ab1c4c");

    public static void main(String[] args) {
        calls();
        keys();
        curve();
        nonces();
        tape();
        sessions();
        messages();
        constants();
        TEST.end();
    }

    private static void calls() {
        TEST.sentence("What it is", "An object is used for at most 512 calls after it has been made",
                BoundaryTermsTest::lastCall);
    }

    /** The most that a counter can come to: 11 calls are a handshake, and the 512th one asks. */
    private static void lastCall() {
        NoiseEngine x = overInElevenCalls();
        for (int i = 0; i < 500; i++) {
            x.send(0, 0);
        }
        TEST.due("state(0, 3) as the 512th call", x.state(0, 3), 500);
        NoiseEngine y = overInElevenCalls();
        for (int i = 0; i < 500; i++) {
            y.receive(1, 0);
        }
        TEST.due("state(1, 5) as the 512th call", y.state(1, 5), 500);
        NoiseEngine z = new NoiseEngine();
        z.start(0, false, 0, 0, 0);
        for (int i = 0; i < 510; i++) {
            z.read(0, 0);
        }
        TEST.due("state(0, 5) as the 512th call", z.state(0, 5), 510);
    }

    private static NoiseEngine overInElevenCalls() {
        NoiseEngine x = new NoiseEngine();
        x.start(0, true, 0, 0, 0);
        x.start(1, false, 0, 0, 0);
        for (int i = 0; i < 3; i++) {
            x.write(i % 2, 0);
            x.read(1 - i % 2, x.turn());
        }
        return x;
    }

    private static void keys() {
        TEST.sentence("Terms", "KEYS 0 to 7", BoundaryTermsTest::keyNumbers);
        TEST.sentence("Terms", "32 bytes each", BoundaryTermsTest::keySizes);
        TEST.sentence("Terms", "0 at first", BoundaryTermsTest::keysAtFirst);
    }

    /** Every call that names a KEY, with the numbers that are just none. */
    private static void keyNumbers() {
        Supplier<NoiseEngine> before = () -> Sizes.tape(Pair.withKeys(), 40);
        for (int k : NO_KEYS) {
            TEST.isFalse("key(" + k + ")", before, x -> x.key(k));
            TEST.isFalse("take(" + k + ")", before, x -> x.take(k));
            TEST.doesNothing("curve(" + k + ", true)", before, x -> x.curve(k, true), -2);
            TEST.doesNothing("curve(" + k + ", false)", before, x -> x.curve(k, false), -2);
            TEST.doesNothing("mac(" + k + ", 1)", before, x -> x.mac(k, 1), -2);
            TEST.doesNothing("seal(" + k + ", 0, 1, 1)", before, x -> x.seal(k, 0, 1, 1), -2);
            TEST.doesNothing("open(" + k + ", 0, 1, 17)", before, x -> x.open(k, 0, 1, 17), -2);
            TEST.isFalse("start(.., fixed " + k + ", ..)", before, x -> x.start(0, true, k, 0, 1));
            TEST.isFalse("start(.., passing " + k + ", ..)", before, x -> x.start(0, true, 0, k, 1));
        }
        for (int k : new int[] {0, 7}) {
            TEST.due("key(" + k + ")", before.get().key(k), true);
            TEST.due("take(" + k + ")", before.get().take(k), true);
            TEST.due("curve(" + k + ", true)", before.get().curve(k, true), 32);
            TEST.due("curve(" + k + ", false)", before.get().curve(k, false), 32);
            TEST.due("mac(" + k + ", 1)", before.get().mac(k, 1), 32);
            TEST.due("seal(" + k + ", 0, 1, 1)", before.get().seal(k, 0, 1, 1), 17);
            TEST.due("open(" + k + ", 0, 1, 17)", before.get().open(k, 0, 1, 17), -1);
            TEST.due("start(.., fixed " + k + ", ..)", before.get().start(0, true, k, 1, 1), true);
            TEST.due("start(.., passing " + k + ", ..)", before.get().start(0, true, 1, k, 1), true);
        }
    }

    /** All eight set, each to another one: none reaches into its neighbour, and the first and last byte count. */
    private static void keySizes() {
        NoiseEngine x = new NoiseEngine();
        for (int k = 0; k < 8; k++) {
            Sizes.fed(x, Reference.part(Sizes.bytes(100 + k), 0, 40));
            x.key(k);
        }
        for (int k = 0; k < 8; k++) {
            x.mac(k, 0);
            TEST.due("KEY " + k, Check.outHex(x),
                    Reference.hmac(Reference.part(Sizes.bytes(100 + k), 0, 32), NOTHING));
        }
        for (int at : new int[] {0, 31, 32}) {
            byte[] bytes = new byte[40];
            bytes[at] = 1;
            NoiseEngine y = Sizes.fed(new NoiseEngine(), bytes);
            y.key(0);
            y.mac(0, 0);
            TEST.due("a KEY with byte " + at + " set", Check.outHex(y),
                    Reference.hmac(Reference.part(bytes, 0, 32), NOTHING));
        }
    }

    private static void keysAtFirst() {
        for (int k = 0; k < 8; k++) {
            NoiseEngine x = new NoiseEngine();
            x.curve(k, true);
            TEST.due("curve(" + k + ", true) at first", Check.outHex(x), Reference.publicKey(new byte[32]));
            NoiseEngine y = new NoiseEngine();
            y.seal(k, 0, 0, 0);
            TEST.due("seal(" + k + ", 0, 0, 0) at first", Check.outHex(y),
                    Reference.seal(new byte[32], 0, NOTHING, NOTHING));
        }
    }

    private static void curve() {
        TEST.sentence("Terms", "a scalar is decoded as there", BoundaryTermsTest::scalarBits);
        TEST.sentence("Terms", "the highest bit of a point is masked", BoundaryTermsTest::pointBits);
        TEST.sentence("Terms", "points below 2 to the 255 that aren't below p are taken as they are",
                BoundaryTermsTest::pointsFromP);
        TEST.sentence("Terms", "nothing is asked of the result", BoundaryTermsTest::smallOrders);
        TEST.sentence("Terms", "nothing is asked of the result (in a session)", BoundaryTermsTest::zeroEphemerals);
    }

    private static String product(byte[] scalar, byte[] point) {
        NoiseEngine x = new NoiseEngine();
        Check.setKey(x, 0, Check.hex(scalar));
        Check.feed(x, point);
        TEST.due("curve(0, false)", x.curve(0, false), 32);
        return Check.outHex(x);
    }

    private static String ownProduct(byte[] scalar) {
        NoiseEngine x = new NoiseEngine();
        Check.setKey(x, 0, Check.hex(scalar));
        x.curve(0, true);
        return Check.outHex(x);
    }

    private static byte[] withBitChanged(byte[] number, int bit) {
        byte[] changed = number.clone();
        changed[bit / 8] ^= (byte) (1 << bit % 8);
        return changed;
    }

    /** Bits 0, 1, 2 and 255 are 0 and bit 254 is 1, whatever they are; the bits beside them count. */
    private static void scalarBits() {
        String due = product(SCALAR, POINT);
        String own = ownProduct(SCALAR);
        TEST.due("X25519", due, Reference.x25519(SCALAR, POINT));
        for (int bit : new int[] {0, 1, 2, 254, 255}) {
            TEST.due("bit " + bit + " changed", product(withBitChanged(SCALAR, bit), POINT), due);
            TEST.due("bit " + bit + " changed, own", ownProduct(withBitChanged(SCALAR, bit)), own);
        }
        for (int bit : new int[] {3, 253}) {
            byte[] other = withBitChanged(SCALAR, bit);
            TEST.due("bit " + bit + " counts", product(other, POINT).equals(due), false);
            TEST.due("bit " + bit + " changed", product(other, POINT), Reference.x25519(other, POINT));
        }
        for (String extreme : new String[] {"00", "ff"}) {
            byte[] scalar = Check.bytes(extreme.repeat(32));
            TEST.due("a scalar of " + extreme, product(scalar, POINT), Reference.x25519(scalar, POINT));
            TEST.due("a scalar of " + extreme + ", own", ownProduct(scalar), Reference.publicKey(scalar));
        }
    }

    private static void pointBits() {
        String due = product(SCALAR, POINT);
        TEST.due("bit 255 changed", product(SCALAR, withBitChanged(POINT, 255)), due);
        for (int bit : new int[] {0, 254}) {
            byte[] other = withBitChanged(POINT, bit);
            TEST.due("bit " + bit + " counts", product(SCALAR, other).equals(due), false);
            TEST.due("bit " + bit + " changed", product(SCALAR, other), Reference.x25519(SCALAR, other));
        }
        byte[] nine = new byte[32];
        nine[0] = 9;
        nine[31] = (byte) 0x80;
        TEST.due("9 with bit 255", product(SCALAR, nine), ownProduct(SCALAR));
    }

    /** p to p + 18, which is 2 to the 255 - 1, are what 0 to 18 are; those just below p are themselves. */
    private static void pointsFromP() {
        for (int i = -3; i <= 18; i++) {
            byte[] point = Reference.toLittle(Reference.P.add(BigInteger.valueOf(i)), 32);
            byte[] least = Reference.toLittle(BigInteger.valueOf(i).mod(Reference.P), 32);
            byte[] due = Reference.x25519(SCALAR, least);
            TEST.due("p + " + i, product(SCALAR, point), due);
            TEST.due("p + " + i + " with bit 255", product(SCALAR, withBitChanged(point, 255)), due);
        }
        byte[] nine = Reference.toLittle(Reference.P.add(BigInteger.valueOf(9)), 32);
        TEST.due("p + 9", product(SCALAR, nine), ownProduct(SCALAR));
    }

    private static void smallOrders() {
        BigInteger[] points = {
            BigInteger.ZERO, BigInteger.ONE, Reference.P.subtract(BigInteger.ONE), Reference.P,
            Reference.P.add(BigInteger.ONE),
            Reference.fromLittle(Check.bytes("e0eb7a7c3b41b8ae1656e3faf19fc46ada098deb9c32b1fd866205165f49b800")),
            Reference.fromLittle(Check.bytes("5f9c95bca3508c24b1d0b1559c83ef5b04445cc4581c8e86d8224eddd09f1157")),
        };
        for (BigInteger point : points) {
            TEST.due("X25519 of " + point, product(SCALAR, Reference.toLittle(point, 32)), "00".repeat(32));
        }
    }

    /** An e of 0, and a static key of 0: both secrets are 0, and the handshake goes on. */
    private static void zeroEphemerals() {
        NoiseEngine x = Sizes.fed(Pair.atStep(0), new byte[32]);
        ReferenceSession peer = Pair.references(0)[1];
        peer.read(new byte[32]);
        TEST.due("read(1, 32) of an e of 0", x.read(1, 32), 0);
        Sizes.empty(x);
        TEST.due("write(1, 0) to an e of 0", x.write(1, 0), 96);
        TEST.dueOut("message 1 to an e of 0", x, peer.write(NOTHING));
    }

    private static void nonces() {
        TEST.sentence("Terms", "the nonce being 4 bytes 0 and 8 bytes of a number n, the lowest first",
                BoundaryTermsTest::sealNonces);
        TEST.sentence("Terms", "8 bytes of a number n (beyond the first byte, in a session)",
                BoundaryTermsTest::sessionNonces);
    }

    private static void sealNonces() {
        long[] ns = {
            0, 1, 255, 256, 65535, 65536, (1L << 31) - 1, 1L << 31, (1L << 32) - 1, 1L << 32, (1L << 32) + 1,
            1L << 56, Long.MAX_VALUE, Long.MIN_VALUE, -2, -1, 0x0102030405060708L,
        };
        byte[] text = Sizes.bytes(40);
        for (long n : ns) {
            NoiseEngine x = Sizes.fed(new NoiseEngine(), text);
            TEST.due("seal(0, " + n + ", 4, 36)", x.seal(0, n, 4, 36), 52);
            byte[] sealed =
                    Reference.seal(new byte[32], n, Reference.part(text, 0, 4), Reference.part(text, 4, 36));
            TEST.dueOut("seal(0, " + n + ", 4, 36)", x, sealed);
            Sizes.fed(x, Reference.part(text, 0, 4), sealed);
            TEST.due("open(0, " + n + ", 4, 52)", x.open(0, n, 4, 52), 36);
            for (long other : new long[] {n + 1, n - 1, ~n, n ^ Long.MIN_VALUE, n ^ 1L << 32}) {
                Sizes.fed(x, Reference.part(text, 0, 4), sealed);
                TEST.due("open(0, " + other + ", 4, 52)", x.open(0, other, 4, 52), -1);
            }
        }
    }

    private static void sessionNonces() {
        NoiseEngine x = overInElevenCalls();
        ReferenceSession[] peers = {
            new ReferenceSession(true, new byte[32], new byte[32], NOTHING),
            new ReferenceSession(false, new byte[32], new byte[32], NOTHING),
        };
        for (int i = 0; i < 3; i++) {
            peers[1 - i % 2].read(peers[i % 2].write(NOTHING));
        }
        for (int n = 0; n < 258; n++) {
            byte[] due = peers[0].send(NOTHING);
            x.send(0, 0);
            if (n < 2 || n > 254) {
                TEST.dueOut("the message with n = " + n, x, due);
            }
        }
        TEST.due("state(0, 3)", x.state(0, 3), 258);
    }

    private static void tape() {
        TEST.sentence("Terms", "a TAPE (at most 1,000 bytes)", BoundaryTermsTest::fullTape);
        TEST.sentence("Terms", "where n bytes are taken from the TAPE they are its first ones",
                BoundaryTermsTest::firstOnes);
        TEST.sentence("Terms", "and it is empty then", BoundaryTermsTest::emptyThen);
        TEST.sentence("Terms", "also when the call tells NONE", BoundaryTermsTest::emptyByNone);
        TEST.sentence("Terms", "not when it tells -2", BoundaryTermsTest::notEmptyByMinus2);
    }

    private static void fullTape() {
        NoiseEngine x = new NoiseEngine();
        for (int i = 1; i <= 50; i++) {
            TEST.due("feed to " + 20 * i, x.feed(i, i, i, i, i), 20 * i);
        }
        TEST.due("feed beyond", x.feed(1, 1, 1, 1, 1), -1);
        TEST.due("the last byte", x.patch(999, 1), true);
        TEST.due("one more", x.patch(1000, 1), false);
        TEST.due("hash(1001)", x.hash(1001), -2);
        TEST.due("hash(1000)", x.hash(1000), 32);
        NoiseEngine y = Sizes.out(new NoiseEngine(), FULL);
        TEST.due("turn of 1,000", y.turn(), FULL);
        TEST.due("feed beyond", y.feed(1, 1, 1, 1, 1), -1);
        TEST.due("hash(1000)", y.hash(FULL), 32);
        TEST.due("hash(1000)", Check.outHex(y), Reference.sha256(Sizes.outOf(FULL)));
    }

    /** Each call that takes some, with more on the tape than it takes. */
    private static void firstOnes() {
        byte[] text = Sizes.bytes(60);
        byte[] key = new byte[32];
        NoiseEngine x = Sizes.fed(new NoiseEngine(), text);
        x.key(3);
        x.mac(3, 0);
        TEST.dueOut("key", x, Reference.hmac(Reference.part(text, 0, 32), NOTHING));
        Sizes.fed(x, text).curve(0, false);
        TEST.dueOut("curve", x, Reference.x25519(key, Reference.part(text, 0, 32)));
        Sizes.fed(x, text).hash(3);
        TEST.dueOut("hash", x, Reference.sha256(Reference.part(text, 0, 3)));
        Sizes.fed(x, text).mac(0, 3);
        TEST.dueOut("mac", x, Reference.hmac(key, Reference.part(text, 0, 3)));
        Sizes.fed(x, text).seal(0, 0, 2, 3);
        byte[] sealed = Reference.seal(key, 0, Reference.part(text, 0, 2), Reference.part(text, 2, 3));
        TEST.dueOut("seal", x, sealed);
        Sizes.fed(x, Reference.part(text, 0, 2), sealed, text).open(0, 0, 2, 19);
        TEST.dueOut("open", x, Reference.part(text, 2, 3));
        firstOnesOfSessions(text);
    }

    private static void firstOnesOfSessions(byte[] text) {
        byte[] three = Reference.part(text, 0, 3);
        NoiseEngine x = Sizes.fed(new NoiseEngine(), text);
        x.start(0, true, 0, 0, 3);
        byte[] name = Check.bytes(Check.asciiHex("Noise_XX_25519_ChaChaPoly_SHA256"));
        TEST.due("start", Check.toldHex(x, 0, 0), Check.hex(Reference.sha256(Reference.join(name, three))));
        for (int step = 0; step < 3; step++) {
            int writer = step % 2;
            byte[] message = Pair.references(step)[writer].write(three);
            NoiseEngine y = Sizes.fed(Pair.atStep(step), text);
            y.write(writer, 3);
            TEST.dueOut("write at STEP " + step, y, message);
            Sizes.fed(y, message, text).read(1 - writer, message.length);
            TEST.dueOut("read at STEP " + step, y, three);
        }
        for (int s = 0; s < 2; s++) {
            byte[] message = Pair.references(3)[s].send(three);
            NoiseEngine y = Sizes.fed(Pair.atStep(3), text);
            y.send(s, 3);
            TEST.dueOut("send", y, message);
            Sizes.fed(y, message, text).receive(1 - s, message.length);
            TEST.dueOut("receive", y, three);
        }
    }

    /** Where there was more than it took, also where it took 0 bytes. */
    private static void emptyThen() {
        Supplier<NoiseEngine> none = () -> Sizes.tape(new NoiseEngine(), FULL);
        emptiedIf("key(0)", none, x -> x.key(0));
        emptied("curve(0, false)", none, x -> x.curve(0, false), 32);
        emptied("hash(0)", none, x -> x.hash(0), 32);
        emptied("hash(999)", none, x -> x.hash(999), 32);
        emptied("mac(0, 0)", none, x -> x.mac(0, 0), 32);
        emptied("mac(0, 1)", none, x -> x.mac(0, 1), 32);
        emptied("seal(0, 0, 0, 0)", none, x -> x.seal(0, 0, 0, 0), 16);
        emptied("seal(0, 0, 1, 1)", none, x -> x.seal(0, 0, 1, 1), 17);
        emptied("open(0, 0, 0, 16)",
                () -> Sizes.fed(new NoiseEngine(), Reference.seal(new byte[32], 0, NOTHING, NOTHING)),
                x -> x.open(0, 0, 0, 16), 0);
        emptiedIf("start(0, true, 0, 0, 0)", none, x -> x.start(0, true, 0, 0, 0));
        emptiedIf("start(0, true, 0, 0, 1)", none, x -> x.start(0, true, 0, 0, 1));
        emptied("write(0, 0)", () -> Sizes.tape(Pair.atStep(0), 20), x -> x.write(0, 0), 32);
        emptied("write(0, 1)", () -> Sizes.tape(Pair.atStep(0), 20), x -> x.write(0, 1), 33);
        emptied("read(1, 32)", () -> Sizes.tape(Pair.atStep(0), 40), x -> x.read(1, 32), 0);
        emptied("send(0, 0)", () -> Sizes.tape(Pair.atStep(3), 20), x -> x.send(0, 0), 16);
        emptied("send(0, 1)", () -> Sizes.tape(Pair.atStep(3), 20), x -> x.send(0, 1), 17);
        emptied("receive(1, 16)", () -> Sizes.fed(Pair.atStep(3), Pair.references(3)[0].send(NOTHING)),
                x -> x.receive(1, 16), 0);
    }

    private static void emptied(String call, Supplier<NoiseEngine> before, ToIntFunction<NoiseEngine> asked, int want) {
        NoiseEngine x = before.get();
        TEST.due(call + ": the tape before", x.count(0) > 0, true);
        TEST.due(call, asked.applyAsInt(x), want);
        TEST.due(call + ": the tape then", x.count(0), 0);
        TEST.due(call + ": hash(1) then", x.hash(1), -2);
        TEST.due(call + ": the next feed", x.feed(1, 2, 3, 4, 5), 20);
    }

    private static void emptiedIf(String call, Supplier<NoiseEngine> before, Predicate<NoiseEngine> asked) {
        emptied(call, before, x -> asked.test(x) ? 1 : 0, 1);
    }

    private static void emptyByNone() {
        emptied("open(0, 0, 0, 15)", () -> Sizes.tape(new NoiseEngine(), 20), x -> x.open(0, 0, 0, 15), -1);
        emptied("open(0, 0, 0, 16)", () -> Sizes.tape(new NoiseEngine(), 20), x -> x.open(0, 0, 0, 16), -1);
        for (int n : new int[] {0, 1, 40}) {
            emptied("write, not its", () -> Sizes.tape(Pair.atStep(0), 40), x -> x.write(1, n), -1);
            emptied("write, over", () -> Sizes.tape(Pair.atStep(3), 40), x -> x.write(0, n), -1);
            emptied("read, not its", () -> Sizes.tape(Pair.atStep(0), 40), x -> x.read(0, n), -1);
            emptied("read, over", () -> Sizes.tape(Pair.atStep(3), 40), x -> x.read(1, n), -1);
            emptied("read, refused", () -> Sizes.tape(Pair.atStep(2), 40), x -> x.read(1, n), -1);
            emptied("send, not over", () -> Sizes.tape(Pair.atStep(2), 40), x -> x.send(0, n), -1);
            emptied("receive, not over", () -> Sizes.tape(Pair.atStep(2), 40), x -> x.receive(0, n), -1);
            emptied("receive, refused", () -> Sizes.tape(Pair.atStep(3), 40), x -> x.receive(0, n), -1);
        }
    }

    private static void notEmptyByMinus2() {
        Supplier<NoiseEngine> begun = () -> Sizes.tape(Pair.atStep(0), 31);
        Supplier<NoiseEngine> over = () -> Sizes.tape(Pair.atStep(3), 31);
        TEST.doesNothing("curve(0, false)", begun, x -> x.curve(0, false), -2);
        TEST.doesNothing("hash(32)", begun, x -> x.hash(32), -2);
        TEST.doesNothing("mac(0, 32)", begun, x -> x.mac(0, 32), -2);
        TEST.doesNothing("seal(0, 0, 1, 31)", begun, x -> x.seal(0, 0, 1, 31), -2);
        TEST.doesNothing("open(0, 0, 1, 31)", begun, x -> x.open(0, 0, 1, 31), -2);
        TEST.doesNothing("write(0, 32)", begun, x -> x.write(0, 32), -2);
        TEST.doesNothing("read(1, 32)", begun, x -> x.read(1, 32), -2);
        TEST.doesNothing("send(0, 32)", over, x -> x.send(0, 32), -2);
        TEST.doesNothing("receive(0, 32)", over, x -> x.receive(0, 32), -2);
    }

    private static void sessions() {
        TEST.sentence("Terms", "SESSIONS 0 to 3", BoundaryTermsTest::sessionNumbers);
        TEST.sentence("Terms", "with a static and an ephemeral KEY (as they were when it began)",
                BoundaryTermsTest::keysWhenItBegan);
        TEST.sentence("Terms", "STEP 0, 1, 2 (messages done), or 3: it's over, Split", BoundaryTermsTest::steps);
        TEST.sentence("Terms", "It writes message 0 and 2 as initiator, 1 as responder, reads the others",
                BoundaryTermsTest::turns);
    }

    /** Every call that names a session, with the numbers that are just none; and all four at once. */
    private static void sessionNumbers() {
        Supplier<NoiseEngine> before = () -> Sizes.tape(Pair.atStep(3), 40);
        for (int s : NO_SESSIONS) {
            TEST.isFalse("start(" + s + ", ..)", before, x -> x.start(s, true, 0, 1, 1));
            TEST.doesNothing("write(" + s + ", 1)", before, x -> x.write(s, 1), -2);
            TEST.doesNothing("read(" + s + ", 1)", before, x -> x.read(s, 1), -2);
            TEST.doesNothing("send(" + s + ", 1)", before, x -> x.send(s, 1), -2);
            TEST.doesNothing("receive(" + s + ", 1)", before, x -> x.receive(s, 1), -2);
            TEST.isFalse("rekey(" + s + ", true)", before, x -> x.rekey(s, true));
            TEST.doesNothing("state(" + s + ", 0)", before, x -> x.state(s, 0), -1);
            TEST.doesNothing("told(" + s + ", 0, 0)", before, x -> x.told(s, 0, 0), -1);
        }
        NoiseEngine x = Pair.withKeys();
        for (int s = 0; s < 4; s++) {
            TEST.due("start(" + s + ", ..)", x.start(s, s < 2, s < 2 ? s : 2, s < 2 ? 1 : 3, 0), true);
        }
        for (int step = 0; step < 3; step++) {
            for (int pair = 0; pair < 2; pair++) {
                int writer = step == 1 ? pair + 2 : pair;
                TEST.due("write(" + writer + ", 0)", x.write(writer, 0) > 0, true);
                TEST.due("read(" + (writer ^ 2) + ", ..)", x.read(writer ^ 2, x.turn()), 0);
            }
        }
        for (int s = 0; s < 4; s++) {
            TEST.due("state(" + s + ", 0)", x.state(s, 0), 3);
        }
        x.send(0, 0);
        TEST.due("receive(3, 16) of another one's", x.receive(3, x.turn()), -1);
        TEST.due("receive(2, 16)", x.receive(2, x.turn()), 0);
    }

    /** KEYS may become others, by key() and by take(), at any step: the session keeps its own. */
    private static void keysWhenItBegan() {
        for (int step = 0; step < 3; step++) {
            NoiseEngine x = Pair.atStep(step);
            for (int k = 0; k < 4; k++) {
                Sizes.fed(x, Sizes.bytes(40));
                if (k % 2 == 0) {
                    x.key(k);
                } else {
                    x.take(k);
                }
            }
            Sizes.empty(x);
            for (int i = step; i < 3; i++) {
                byte[] due = Pair.references(i)[i % 2].write(NOTHING);
                x.write(i % 2, 0);
                TEST.dueOut("message " + i + ", KEYS changed at STEP " + step, x, due);
                TEST.due("read of message " + i, x.read(1 - i % 2, x.turn()), 0);
            }
        }
    }

    private static void steps() {
        for (int step = 0; step <= 3; step++) {
            NoiseEngine x = Pair.atStep(step);
            for (int s = 0; s < 2; s++) {
                TEST.due("state(" + s + ", 0)", x.state(s, 0), step);
                TEST.due("send(" + s + ", 0) at STEP " + step, x.send(s, 0), step == 3 ? 16 : -1);
                TEST.due("receive(" + s + ", 0) at STEP " + step, x.receive(s, 0), -1);
                TEST.due("refused at STEP " + step, x.state(s, 5), step == 3 ? 1 : 0);
            }
        }
    }

    private static void turns() {
        boolean[][] writes = {{true, false}, {false, true}, {true, false}, {false, false}};
        boolean[][] reads = {{false, true}, {true, false}, {false, true}, {false, false}};
        for (int step = 0; step <= 3; step++) {
            byte[] message = step == 3 ? new byte[64] : Pair.references(step)[step % 2].write(NOTHING);
            for (int s = 0; s < 2; s++) {
                NoiseEngine x = Pair.atStep(step);
                TEST.due("write(" + s + ", 0) at STEP " + step, x.write(s, 0), writes[step][s] ? message.length : -1);
                NoiseEngine y = Sizes.fed(Pair.atStep(step), message);
                TEST.due("read(" + s + ", ..) at STEP " + step, y.read(s, message.length), reads[step][s] ? 0 : -1);
            }
        }
    }

    private static void messages() {
        TEST.sentence("Terms", "Messages: 0: e and the payload; 1: e, ee, s, es and the payload; "
                + "2: s, se and the payload", BoundaryTermsTest::messageParts);
        TEST.sentence("Terms", "Behind the third one: the initiator sends by the first CipherState of Split, "
                + "receives by the second one, the responder the other way", BoundaryTermsTest::ways);
        TEST.sentence("Terms", "associated data of transport messages is empty", BoundaryTermsTest::nothingAssociated);
        TEST.sentence("Terms", "Each CipherState has its own n", BoundaryTermsTest::ownNonces);
    }

    /** With an empty payload, which is sealed too from message 1 on, and with one of a byte. */
    private static void messageParts() {
        int[] sizes = {32, 96, 64};
        for (int step = 0; step < 3; step++) {
            for (int n = 0; n < 2; n++) {
                NoiseEngine x = Sizes.fed(Pair.atStep(step), Sizes.bytes(20));
                byte[] due = Pair.references(step)[step % 2].write(Reference.part(Sizes.bytes(20), 0, n));
                TEST.due("message " + step + " of " + n, x.write(step % 2, n), sizes[step] + n);
                TEST.dueOut("message " + step + " of " + n, x, due);
            }
        }
    }

    private static void ways() {
        for (int s = 0; s < 2; s++) {
            byte[] due = Pair.references(3)[s].send(NOTHING);
            NoiseEngine x = Pair.atStep(3);
            x.send(s, 0);
            TEST.dueOut("send(" + s + ", 0)", x, due);
            TEST.due("receive(" + s + ", 16) of its own", x.receive(s, x.turn()), -1);
            TEST.due("receive(" + (1 - s) + ", 16)", x.receive(1 - s, x.turn()), 0);
        }
    }

    /** Not even the handshake hash, nor what is left on the tape. */
    private static void nothingAssociated() {
        byte[] text = Sizes.bytes(60);
        for (int s = 0; s < 2; s++) {
            for (int n : new int[] {0, 1, 40}) {
                byte[] due = Pair.references(3)[s].send(Reference.part(text, 0, n));
                NoiseEngine x = Sizes.fed(Pair.atStep(3), text);
                x.send(s, n);
                TEST.dueOut("send(" + s + ", " + n + ")", x, due);
                Sizes.fed(x, due, text);
                TEST.due("receive of it", x.receive(1 - s, due.length), n);
            }
        }
    }

    private static void ownNonces() {
        NoiseEngine x = Pair.atStep(3);
        ReferenceSession[] peers = Pair.references(3);
        int[] senders = {0, 0, 0, 1, 0, 1, 1};
        int[] sent = {0, 0};
        for (int s : senders) {
            byte[] due = peers[s].send(NOTHING);
            x.send(s, 0);
            sent[s]++;
            TEST.dueOut("message " + sent[s] + " of " + s, x, due);
            TEST.due("receive of it", x.receive(1 - s, x.turn()), 0);
            for (int t = 0; t < 2; t++) {
                TEST.due("state(" + t + ", 3)", x.state(t, 3), sent[t]);
                TEST.due("state(" + t + ", 4)", x.state(t, 4), sent[1 - t]);
            }
        }
    }

    private static void constants() {
        TEST.sentence("The constants", "NONE = -1", () -> TEST.due("NONE", NoiseEngine.NONE, -1));
    }
}
