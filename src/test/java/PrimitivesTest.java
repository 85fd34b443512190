import java.math.BigInteger;
import java.util.Arrays;
import java.util.Random;

/** Promises 7 to 11: curve, hash, mac, seal and open. */
public final class PrimitivesTest {
    private static final Check CHECK = new Check("PrimitivesTest");
    private static final int[] NO_KEYS = {-1, 8, Integer.MIN_VALUE, Integer.MAX_VALUE};
    private static final String P = "ed" + "ff".repeat(30) + "7f";

    public static void main(String[] args) {
        curveVectors();
        curveThousandTimes();
        curveStrangePoints();
        curveResultsAtTheEnds();
        curveEdges();
        hashVectors();
        hashEdges();
        macVectors();
        macEdges();
        sealVector();
        sealSizes();
        sealTagsAtTheEnds();
        sealEdges();
        openTampered();
        openEdges();
        CHECK.end();
    }

    private static void curveVectors() {
        // RFC 7748, 5.2 and 6.1
        expectProduct("a546e36bf0527c9d3b16154b82465edd62144c0ac1fc5a18506a2244ba449ac4",
                "e6db6867583030db3594c1a424b15f7c726624ec26b3353b10a903a6d0ab1c4c",
                "c3da55379de9c6908e94ea4df28d084f32eccf03491c71f754b4075577a28552");
        expectProduct("4b66e9d4d1b4673c5ad22691957d6af5c11b6421e0ea01d42ca4169e7918ba0d",
                "e5210f12786811d3f4b7959d0538ae2c31dbe7106fc03c3efc4cd549c715a493",
                "95cbde9476e8907d7aade45cb4b873f88b595a68799fa152e6f8f7647aac7957");
        String bob = "5dab087e624a8a4b79e17f8b83800ee66f3bb1292618b6fd1c2f8b27ff88e0eb";
        String bobPublic = "de9edb7d7b7dc1b4d35b61c2ece435373f8343c85b78674dadfc7e146f882b4f";
        String alicePublic = "8520f0098930a754748b7ddcb43ef75a0dbf3a0d26381af4eba4a98eaa9b4e6a";
        expectProduct(bob, alicePublic, "4a5d9d5ba4ce2de1728e3bf480350f25e07e21c947d19e3376f09b3c1e161742");
        NoiseEngine x = new NoiseEngine();
        Check.setKey(x, 6, bob);
        CHECK.due("curve(6, true)", x.curve(6, true), 32);
        CHECK.due("Bob's public key", Check.outHex(x), bobPublic);
    }

    private static void curveThousandTimes() {
        // RFC 7748, 5.2
        String k = "09" + "00".repeat(31);
        String u = k;
        for (int i = 1; i <= 1000; i++) {
            String next = product(k, u);
            u = k;
            k = next;
            if (i == 1) {
                CHECK.due("X25519 once", k, "422c8e7a6227d7bca1350b3e2bb7279f7897b87bb6854b783c60e80311ae3079");
            }
        }
        CHECK.due("X25519 1,000 times", k, "684cf59ba83309552800ef566f2f4d3c1c3887c49360e3875f2eb94d99532c51");
    }

    /** Points that aren't below p, whose highest bit is set, or whose order is small. */
    private static void curveStrangePoints() {
        String secret = "a546e36bf0527c9d3b16154b82465edd62144c0ac1fc5a18506a2244ba449ac4";
        String zero = "00".repeat(32);
        String[] small = {
            zero,
            "01" + "00".repeat(31),
            P,
            "ee" + P.substring(2),
            "ec" + P.substring(2),
            "e0eb7a7c3b41b8ae1656e3faf19fc46ada098deb9c32b1fd866205165f49b800",
            "5f9c95bca3508c24b1d0b1559c83ef5b04445cc4581c8e86d8224eddd09f1157",
            "ed" + "ff".repeat(31),
        };
        for (String point : small) {
            expectProduct(secret, point, zero);
        }
        Random random = new Random(7);
        byte[] scalar = new byte[32];
        for (int low = 0xe0; low <= 0xff; low++) {
            random.nextBytes(scalar);
            for (String top : new String[] {"7f", "ff"}) {
                String point = Integer.toHexString(low) + "ff".repeat(30) + top;
                expectProduct(Check.hex(scalar), point,
                        Check.hex(Reference.x25519(scalar, Check.bytes(point))));
            }
        }
        byte[] point = new byte[32];
        for (int i = 0; i < 60; i++) {
            random.nextBytes(scalar);
            random.nextBytes(point);
            expectProduct(Check.hex(scalar), Check.hex(point), Check.hex(Reference.x25519(scalar, point)));
        }
        for (String extreme : new String[] {zero, "ff".repeat(32)}) {
            byte[] same = Check.bytes(extreme);
            expectProduct(extreme, Check.hex(point), Check.hex(Reference.x25519(same, point)));
        }
    }

    /** Products that are nearly 0 or nearly p, where the last reduction has its edges. */
    private static void curveResultsAtTheEnds() {
        BigInteger[] orders = {
            BigInteger.TWO.pow(252).add(new BigInteger("27742317777372353535851937790883648493")),
            BigInteger.TWO.pow(253).subtract(new BigInteger("55484635554744707071703875581767296995")),
        };
        Random random = new Random(23);
        byte[] scalar = new byte[32];
        int low = 0;
        int high = 0;
        for (int i = -60; i <= 60; i++) {
            BigInteger target = BigInteger.valueOf(i).mod(Reference.P);
            for (BigInteger order : orders) {
                random.nextBytes(scalar);
                BigInteger back = Reference.decodeScalar(scalar).modInverse(order);
                byte[] point = Reference.toLittle(Reference.ladder(back, target), 32);
                byte[] due = Reference.toLittle(target, 32);
                // Not every target is a multiple of a point by this order.
                if (Arrays.equals(Reference.x25519(scalar, point), due)) {
                    expectProduct(Check.hex(scalar), Check.hex(point), Check.hex(due));
                    low += i > 0 ? 1 : 0;
                    high += i < 0 ? 1 : 0;
                }
            }
        }
        CHECK.due("enough products near 0 and near p", low > 9 && high > 9, true);
    }

    private static void curveEdges() {
        NoiseEngine x = new NoiseEngine();
        CHECK.due("curve(0, false) of nothing", x.curve(0, false), -2);
        CHECK.due("curve(0, false) of nothing: OUT", x.count(1), 0);
        x.feed(1, 2, 3, 4, 5);
        CHECK.due("curve(0, false) of 20", x.curve(0, false), -2);
        CHECK.due("curve(0, false) of 20 does nothing", x.count(0), 20);
        CHECK.due("curve(0, true)", x.curve(0, true), 32);
        CHECK.due("curve(0, true) takes nothing from the tape", x.count(0), 20);
        CHECK.due("curve(0, true) of KEY 0", Check.outHex(x), Check.hex(Reference.publicKey(new byte[32])));
        x.feed(1, 2, 3, 4, 5);
        for (int k : NO_KEYS) {
            CHECK.due("curve(" + k + ", false)", x.curve(k, false), -2);
            CHECK.due("curve(" + k + ", true)", x.curve(k, true), -2);
        }
        CHECK.due("curve of no KEY does nothing", x.count(0), 40);
        CHECK.due("curve(7, false) of 40", x.curve(7, false), 32);
        CHECK.due("curve(7, false) empties the tape", x.count(0), 0);
    }

    private static void hashVectors() {
        expectHash("", "e3b0c44298fc1c149afbf4c8996fb92427ae41e4649b934ca495991b7852b855");
        expectHash(Check.asciiHex("abc"), "ba7816bf8f01cfea414140de5dae2223b00361a396177a9cb410ff61f20015ad");
        expectHash(Check.asciiHex("abcdbcdecdefdefgefghfghighijhijkijkljklmklmnlmnomnopnopq"),
                "248d6a61d20638b8e5c026930c3e6039a33ce45964ff2167f6ecedd419db06c1");
        byte[] all = bytesOf(1000, 3);
        for (int n = 0; n <= 1000; n += n < 200 ? 1 : 37) {
            byte[] data = Reference.part(all, 0, n);
            expectHash(Check.hex(data), Check.hex(Reference.sha256(data)));
        }
        expectHash(Check.hex(all), Check.hex(Reference.sha256(all)));
    }

    private static void hashEdges() {
        NoiseEngine x = new NoiseEngine();
        x.feed(1, 2, 3, 4, 5);
        for (int n : new int[] {-1, 21, Integer.MIN_VALUE, Integer.MAX_VALUE}) {
            CHECK.due("hash(" + n + ") of 20", x.hash(n), -2);
        }
        CHECK.due("-2 leaves the tape", x.count(0), 20);
        CHECK.due("-2 leaves OUT", x.count(1), 0);
        CHECK.due("hash(3) of 20", x.hash(3), 32);
        CHECK.due("hash(3) empties the tape", x.count(0), 0);
        x.feed(1, 2, 3, 4, 5);
        CHECK.due("hash(0) of 20", x.hash(0), 32);
        CHECK.due("hash(0) empties the tape", x.count(0), 0);
    }

    private static void macVectors() {
        // RFC 4231, 4.2 to 4.4: shorter keys are filled up with 0, as HMAC does itself.
        expectMac("0b".repeat(20) + "00".repeat(12), Check.asciiHex("Hi There"),
                "b0344c61d8db38535ca8afceaf0bf12b881dc200c9833da726e9376c2e32cff7");
        expectMac(Check.asciiHex("Jefe") + "00".repeat(28), Check.asciiHex("what do ya want for nothing?"),
                "5bdcc146bf60754e6a042426089575c75a003f089d2739839dec58b964ec3843");
        expectMac("aa".repeat(20) + "00".repeat(12), "dd".repeat(50),
                "773ea91e36800e46854db8ebd09181a72959098b3ef8c122d9635514ced565fe");
        byte[] key = bytesOf(32, 5);
        for (int n : new int[] {0, 1, 54, 55, 56, 63, 64, 65, 119, 120, 999, 1000}) {
            byte[] data = bytesOf(n, n);
            expectMac(Check.hex(key), Check.hex(data), Check.hex(Reference.hmac(key, data)));
        }
    }

    private static void macEdges() {
        NoiseEngine x = new NoiseEngine();
        x.feed(1, 2, 3, 4, 5);
        for (int k : NO_KEYS) {
            CHECK.due("mac(" + k + ", 0)", x.mac(k, 0), -2);
        }
        for (int n : new int[] {-1, 21, Integer.MIN_VALUE, Integer.MAX_VALUE}) {
            CHECK.due("mac(0, " + n + ") of 20", x.mac(0, n), -2);
        }
        CHECK.due("-2 leaves the tape", x.count(0), 20);
        CHECK.due("-2 leaves OUT", x.count(1), 0);
        CHECK.due("mac(7, 20)", x.mac(7, 20), 32);
        CHECK.due("mac(7, 20) empties the tape", x.count(0), 0);
    }

    private static void sealVector() {
        // RFC 8439, A.5: its nonce begins with 4 bytes 0.
        NoiseEngine x = new NoiseEngine();
        Check.setKey(x, 2, "1c9240a5eb55d38af333888604f6b5f0473917c1402b80099dca5cbc207075c0");
        String sealed = "64a0861575861af460f062c79be643bd5e805cfd345cf389f108670ac76c8cb2"
                + "4c6cfc18755d43eea09ee94e382d26b0bdb7b73c321b0100d4f03b7f355894cf"
                + "332f830e710b97ce98c8a84abd0b948114ad176e008d33bd60f982b1ff37c855"
                + "9797a06ef4f0ef61c186324e2b3506383606907b6a7c02b0f9f6157b53c867e4"
                + "b9166c767b804d46a59b5216cde7a4e99040c5a40433225ee282a1b0a06c523e"
                + "af4534d7f83fa1155b0047718cbc546a0d072b04b3564eea1b422273f548271a"
                + "0bb2316053fa76991955ebd63159434ecebb4e466dae5a1073a6727627097a10"
                + "49e617d91d361094fa68f0ff77987130305beaba2eda04df997b714d6c6f2c29"
                + "a6ad5cb4022b02709b" + "eead9d67890cbb22392336fea1851f38";
        String plain = Check.asciiHex("Internet-Drafts are draft documents valid for a maximum of six months and may be"
                + " updated, replaced, or obsoleted by other documents at any time. It is inappropriate to use"
                + " Internet-Drafts as reference material or to cite them other than as /")
                + "e2809c" + Check.asciiHex("work in progress./") + "e2809d";
        String associated = "f33388860000000000004e91";
        long n = 0x0807060504030201L;
        Check.feedHex(x, associated + plain);
        CHECK.due("seal of RFC 8439, A.5", x.seal(2, n, 12, 265), 281);
        CHECK.due("seal of RFC 8439, A.5", Check.outHex(x), sealed);
        Check.feedHex(x, associated + sealed);
        CHECK.due("open of RFC 8439, A.5", x.open(2, n, 12, 281), 265);
        CHECK.due("open of RFC 8439, A.5", Check.outHex(x), plain);
    }

    private static void sealSizes() {
        Random random = new Random(11);
        byte[] key = new byte[32];
        int[][] sizes = {
            {0, 0}, {1, 0}, {0, 1}, {15, 15}, {16, 16}, {17, 17}, {0, 63}, {0, 64}, {0, 65}, {12, 128}, {1000, 0},
            {984, 16}, {0, 984}, {16, 984}, {500, 500},
        };
        long[] nonces = {0, 1, -1, Long.MIN_VALUE, Long.MAX_VALUE, 1L << 32, 0x0102030405060708L};
        for (int[] size : sizes) {
            for (long n : nonces) {
                random.nextBytes(key);
                expectSealed(key, n, bytesOf(size[0], size[1] + 1), bytesOf(size[1], size[0] + 2));
            }
        }
        // Keys and texts of all ones and zeros reach the ends of the tag's arithmetic.
        for (int i = 0; i < 256; i++) {
            random.nextBytes(key);
            byte[] plain = new byte[i];
            Arrays.fill(plain, (byte) (i % 2 == 0 ? 0xff : 0));
            expectSealed(key, random.nextLong(), new byte[i % 33], plain);
        }
    }

    /** Associated data such that the tag's number is nearly 0 or nearly 2 to the 130 - 5. */
    private static void sealTagsAtTheEnds() {
        BigInteger p = BigInteger.TWO.pow(130).subtract(BigInteger.valueOf(5));
        BigInteger top = BigInteger.TWO.pow(128);
        BigInteger lengths = BigInteger.valueOf(16).add(top);
        Random random = new Random(29);
        byte[] key = new byte[32];
        int found = 0;
        for (int i = 0; i < 4000; i++) {
            random.nextBytes(key);
            BigInteger r = tagMultiplier(key, i);
            BigInteger target = BigInteger.valueOf(i % 21 - 10);
            BigInteger before = target.multiply(r.modInverse(p)).subtract(lengths);
            BigInteger block = before.multiply(r.modInverse(p)).subtract(top).mod(p);
            if (block.compareTo(top) < 0) {
                expectSealed(key, i, Reference.toLittle(block, 16), new byte[0]);
                found++;
            }
        }
        CHECK.due("enough tags near the ends", found > 500, true);
    }

    /** r of the one-time key, which is the first block of the key stream. */
    private static BigInteger tagMultiplier(byte[] key, long n) {
        byte[] r = Reference.part(Reference.chaCha20(key, n, 0, new byte[32]), 0, 16);
        for (int i = 3; i < 16; i += 4) {
            r[i] &= 15;
        }
        for (int i = 4; i < 16; i += 4) {
            r[i] &= (byte) 252;
        }
        return Reference.fromLittle(r);
    }

    private static void expectSealed(byte[] key, long n, byte[] associated, byte[] plain) {
        NoiseEngine x = new NoiseEngine();
        String call = "(0, " + n + ", " + associated.length + ", " + plain.length + ")";
        Check.setKey(x, 0, Check.hex(key));
        Check.feed(x, Reference.join(associated, plain));
        byte[] due = Reference.seal(key, n, associated, plain);
        CHECK.due("seal" + call, x.seal(0, n, associated.length, plain.length), plain.length + 16);
        CHECK.due("seal" + call, Check.outHex(x), Check.hex(due));
        CHECK.due("seal" + call + " empties the tape", x.count(0), 0);
        if (associated.length + due.length <= 1000) {
            Check.feed(x, Reference.join(associated, due));
            CHECK.due("open" + call, x.open(0, n, associated.length, due.length), plain.length);
            CHECK.due("open" + call, Check.outHex(x), Check.hex(plain));
            CHECK.due("open" + call + " empties the tape", x.count(0), 0);
        }
    }

    private static void sealEdges() {
        NoiseEngine x = new NoiseEngine();
        for (int i = 0; i < 50; i++) {
            x.feed(i, i, i, i, i);
        }
        for (int k : NO_KEYS) {
            CHECK.due("seal(" + k + ", 0, 0, 0)", x.seal(k, 0, 0, 0), -2);
        }
        int[][] wrong = {
            {-1, 0}, {0, -1}, {-1, -1}, {-5, 10}, {10, -5}, {0, 985}, {0, 1000}, {1, 1000}, {17, 984}, {1001, 0},
            {Integer.MAX_VALUE, 1}, {Integer.MAX_VALUE, Integer.MAX_VALUE}, {1, Integer.MAX_VALUE},
            {Integer.MIN_VALUE, 0}, {0, Integer.MIN_VALUE}, {Integer.MIN_VALUE, Integer.MIN_VALUE},
        };
        for (int[] ab : wrong) {
            CHECK.due("seal(0, 0, " + ab[0] + ", " + ab[1] + ")", x.seal(0, 0, ab[0], ab[1]), -2);
        }
        CHECK.due("-2 leaves the tape", x.count(0), 1000);
        CHECK.due("-2 leaves OUT", x.count(1), 0);
        CHECK.due("seal(7, 0, 16, 984)", x.seal(7, 0, 16, 984), 1000);
        CHECK.due("seal empties the tape", x.count(0), 0);
        CHECK.due("turn of the longest OUT", x.turn(), 1000);
        CHECK.due("open of it without its associated data", x.open(7, 0, 0, 1000), -1);
    }

    private static void openTampered() {
        byte[] key = bytesOf(32, 1);
        byte[] associated = bytesOf(7, 2);
        byte[] whole = Reference.join(associated, Reference.seal(key, 9, associated, bytesOf(13, 3)));
        for (int k = 0; k < whole.length; k++) {
            NoiseEngine x = new NoiseEngine();
            Check.setKey(x, 0, Check.hex(key));
            x.hash(0);
            String before = Check.outHex(x);
            Check.feed(x, whole);
            x.patch(k, whole[k] ^ 1 << k % 8);
            CHECK.due("open with byte " + k + " changed", x.open(0, 9, 7, 29), -1);
            CHECK.due("open refused: OUT stays", Check.outHex(x), before);
            CHECK.due("open refused: the tape is empty", x.count(0), 0);
        }
        int[][] others = {{1, 9, 7, 29}, {0, 8, 7, 29}, {0, 9, 6, 30}, {0, 9, 7, 28}, {0, 9, 8, 28}, {0, 9, 7, 30}};
        for (int[] o : others) {
            NoiseEngine x = new NoiseEngine();
            Check.setKey(x, 0, Check.hex(key));
            Check.feed(x, whole);
            CHECK.due("open with another KEY, n or size", x.open(o[0], o[1], o[2], o[3]), -1);
        }
    }

    private static void openEdges() {
        NoiseEngine x = new NoiseEngine();
        x.hash(0);
        x.feed(1, 2, 3, 4, 5);
        for (int k : NO_KEYS) {
            CHECK.due("open(" + k + ", 0, 0, 16)", x.open(k, 0, 0, 16), -2);
        }
        int[][] wrong = {
            {-1, 16}, {0, -1}, {0, 21}, {5, 16}, {21, 0}, {Integer.MAX_VALUE, 16}, {16, Integer.MAX_VALUE},
            {Integer.MAX_VALUE, Integer.MAX_VALUE}, {Integer.MIN_VALUE, 16}, {16, Integer.MIN_VALUE},
        };
        for (int[] ab : wrong) {
            CHECK.due("open(0, 0, " + ab[0] + ", " + ab[1] + ")", x.open(0, 0, ab[0], ab[1]), -2);
        }
        CHECK.due("-2 leaves the tape", x.count(0), 20);
        for (int b = 0; b < 16; b++) {
            CHECK.due("open(0, 0, 0, " + b + ")", x.open(0, 0, 0, b), -1);
            CHECK.due("b below 16: the tape is empty", x.count(0), 0);
            CHECK.due("b below 16: OUT stays", x.count(1), 32);
            x.feed(1, 2, 3, 4, 5);
        }
        CHECK.due("open of no seal", x.open(0, 0, 4, 16), -1);
        CHECK.due("open of no seal: the tape is empty", x.count(0), 0);
        x.seal(0, 0, 0, 0);
        x.turn();
        CHECK.due("open of an empty text", x.open(0, 0, 0, 16), 0);
        CHECK.due("open of an empty text: OUT", x.count(1), 0);
    }

    private static void expectProduct(String scalar, String point, String due) {
        CHECK.due("X25519(" + scalar + ", " + point + ")", product(scalar, point), due);
    }

    private static String product(String scalar, String point) {
        NoiseEngine x = new NoiseEngine();
        Check.setKey(x, 0, scalar);
        Check.feedHex(x, point);
        x.curve(0, false);
        return Check.outHex(x);
    }

    private static void expectHash(String data, String due) {
        NoiseEngine x = new NoiseEngine();
        Check.feedHex(x, data);
        int n = data.length() / 2;
        CHECK.due("hash(" + n + ")", x.hash(n), 32);
        CHECK.due("hash(" + n + ")", Check.outHex(x), due);
    }

    private static void expectMac(String key, String data, String due) {
        NoiseEngine x = new NoiseEngine();
        Check.setKey(x, 4, key);
        Check.feedHex(x, data);
        int n = data.length() / 2;
        CHECK.due("mac(4, " + n + ")", x.mac(4, n), 32);
        CHECK.due("mac(4, " + n + ")", Check.outHex(x), due);
    }

    private static byte[] bytesOf(int size, int seed) {
        byte[] bytes = new byte[size];
        new Random(seed).nextBytes(bytes);
        return bytes;
    }
}
