/**
 * An engine for the XX handshake of the Noise Protocol Framework (revision 34),
 * Noise_XX_25519_ChaChaPoly_SHA256, with its curve, cipher and hash.
 *
 * All rows are made with the object and used again: no call makes an object.
 */
public final class NoiseEngine {
    /** There is none. */
    public static final int NONE = -1;

    /** What a call tells that could not be done at all and has changed nothing. */
    private static final int BAD_CALL = -2;
    private static final int TAPE_LIMIT = 1000;
    private static final int FEED_SIZE = 20;
    private static final int KEYS = 8;
    private static final int SESSIONS = 4;
    /** Bytes of a key, a point, a shared secret and a hash alike. */
    private static final int WIDTH = 32;
    private static final int TAG_SIZE = 16;
    private static final int SEAL_LIMIT = TAPE_LIMIT - TAG_SIZE;
    private static final int PAYLOAD_LIMIT = 900;

    private final byte[] tape = new byte[TAPE_LIMIT];
    private int tapeSize = 0;
    private final byte[] result = new byte[TAPE_LIMIT];
    private int resultSize = 0;
    private final byte[][] keys = new byte[KEYS][WIDTH];
    private final Suite suite = new Suite();
    private final Session[] sessions = new Session[SESSIONS];

    public NoiseEngine() {
        SymmetricState spare = new SymmetricState(suite);
        for (int s = 0; s < SESSIONS; s++) {
            sessions[s] = new Session(suite, spare);
        }
    }

    public int feed(int a, int b, int c, int d, int e) {
        if (tapeSize > TAPE_LIMIT - FEED_SIZE) {
            return NONE;
        }
        Bytes.storeBig(a, tape, tapeSize);
        Bytes.storeBig(b, tape, tapeSize + 4);
        Bytes.storeBig(c, tape, tapeSize + 8);
        Bytes.storeBig(d, tape, tapeSize + 12);
        Bytes.storeBig(e, tape, tapeSize + 16);
        tapeSize += FEED_SIZE;
        return tapeSize;
    }

    public int turn() {
        System.arraycopy(result, 0, tape, 0, resultSize);
        tapeSize = resultSize;
        return tapeSize;
    }

    public boolean patch(int k, int v) {
        if (k < 0 || k >= tapeSize) {
            return false;
        }
        tape[k] = (byte) v;
        return true;
    }

    public boolean key(int k) {
        if (!isKey(k) || !isOnTape(WIDTH)) {
            return false;
        }
        System.arraycopy(tape, 0, keys[k], 0, WIDTH);
        emptyTape();
        return true;
    }

    public boolean take(int k) {
        if (!isKey(k) || resultSize < WIDTH) {
            return false;
        }
        System.arraycopy(result, 0, keys[k], 0, WIDTH);
        return true;
    }

    public int curve(int k, boolean own) {
        if (!isKey(k)) {
            return BAD_CALL;
        }
        if (own) {
            return tellRow(suite.curve.publicKey(keys[k]));
        }
        if (!isOnTape(WIDTH)) {
            return BAD_CALL;
        }
        emptyTape();
        return tellRow(suite.curve.multiply(keys[k], tape));
    }

    public int hash(int n) {
        if (!isOnTape(n)) {
            return BAD_CALL;
        }
        emptyTape();
        suite.sha.reset();
        suite.sha.absorb(tape, 0, n);
        suite.sha.finish(result);
        return tell(WIDTH);
    }

    public int mac(int k, int n) {
        if (!isKey(k) || !isOnTape(n)) {
            return BAD_CALL;
        }
        emptyTape();
        suite.hmac.begin(keys[k]);
        suite.hmac.absorb(tape, 0, n);
        suite.hmac.finish(result);
        return tell(WIDTH);
    }

    public int seal(int k, long n, int a, int b) {
        if (!isKey(k) || b > SEAL_LIMIT || !areOnTape(a, b)) {
            return BAD_CALL;
        }
        emptyTape();
        suite.aead.begin(keys[k], n);
        suite.aead.associate(tape, a);
        suite.aead.encrypt(tape, a, b, result, 0);
        return tell(b + TAG_SIZE);
    }

    public int open(int k, long n, int a, int b) {
        if (!isKey(k) || !areOnTape(a, b)) {
            return BAD_CALL;
        }
        emptyTape();
        suite.aead.begin(keys[k], n);
        suite.aead.associate(tape, a);
        return tell(suite.aead.decrypt(tape, a, b, result, 0) ? b - TAG_SIZE : NONE);
    }

    public boolean start(int s, boolean initiator, int fixed, int passing, int n) {
        if (!isSession(s) || !isKey(fixed) || !isKey(passing) || !isOnTape(n)) {
            return false;
        }
        emptyTape();
        sessions[s].begin(initiator, keys[fixed], keys[passing], tape, n);
        return true;
    }

    public int write(int s, int n) {
        if (!hasBegun(s) || n > PAYLOAD_LIMIT || !isOnTape(n)) {
            return BAD_CALL;
        }
        emptyTape();
        if (!sessions[s].writesNext()) {
            return NONE;
        }
        return tell(sessions[s].writeMessage(tape, n, result));
    }

    public int read(int s, int n) {
        if (!hasBegun(s) || !isOnTape(n)) {
            return BAD_CALL;
        }
        emptyTape();
        if (!sessions[s].readsNext()) {
            return NONE;
        }
        return tell(sessions[s].readMessage(tape, n, result));
    }

    public int send(int s, int n) {
        if (!hasBegun(s) || n > PAYLOAD_LIMIT || !isOnTape(n)) {
            return BAD_CALL;
        }
        emptyTape();
        if (!sessions[s].isOver()) {
            return NONE;
        }
        return tell(sessions[s].sendMessage(tape, n, result));
    }

    public int receive(int s, int n) {
        if (!hasBegun(s) || !isOnTape(n)) {
            return BAD_CALL;
        }
        emptyTape();
        if (!sessions[s].isOver()) {
            return NONE;
        }
        return tell(sessions[s].receiveMessage(tape, n, result));
    }

    public boolean rekey(int s, boolean sending) {
        if (!hasBegun(s) || !sessions[s].isOver()) {
            return false;
        }
        sessions[s].renewKey(sending);
        return true;
    }

    public int state(int s, int what) {
        return hasBegun(s) ? sessions[s].figure(what) : NONE;
    }

    public int told(int s, int which, int k) {
        if (!hasBegun(s) || k < 0 || k >= WIDTH) {
            return NONE;
        }
        return sessions[s].knownByte(which, k);
    }

    public int out(int k) {
        return k >= 0 && k < resultSize ? result[k] & 0xff : NONE;
    }

    public int count(int what) {
        switch (what) {
            case 0:
                return tapeSize;
            case 1:
                return resultSize;
            default:
                return NONE;
        }
    }

    private static boolean isKey(int k) {
        return k >= 0 && k < KEYS;
    }

    private static boolean isSession(int s) {
        return s >= 0 && s < SESSIONS;
    }

    private boolean hasBegun(int s) {
        return isSession(s) && sessions[s].hasBegun();
    }

    private boolean isOnTape(int n) {
        return n >= 0 && n <= tapeSize;
    }

    /** Asks without the sum of both, which could wrap around. */
    private boolean areOnTape(int a, int b) {
        return isOnTape(a) && b >= 0 && b <= tapeSize - a;
    }

    /** The bytes stay in the row, so that the call which took them still reads them there. */
    private void emptyTape() {
        tapeSize = 0;
    }

    /** A refused call leaves OUT as it was: nothing has been put into its row then. */
    private int tell(int size) {
        if (size != NONE) {
            resultSize = size;
        }
        return size;
    }

    private int tellRow(byte[] row) {
        System.arraycopy(row, 0, result, 0, WIDTH);
        return tell(WIDTH);
    }

    /** Whole numbers in rows of bytes; whoever calls knows that four bytes are there. */
    private static final class Bytes {
        static int loadBig(byte[] from, int at) {
            return (from[at] & 0xff) << 24 | (from[at + 1] & 0xff) << 16
                    | (from[at + 2] & 0xff) << 8 | (from[at + 3] & 0xff);
        }

        static void storeBig(int value, byte[] to, int at) {
            to[at] = (byte) (value >>> 24);
            to[at + 1] = (byte) (value >>> 16);
            to[at + 2] = (byte) (value >>> 8);
            to[at + 3] = (byte) value;
        }

        static int loadLittle(byte[] from, int at) {
            return (from[at] & 0xff) | (from[at + 1] & 0xff) << 8
                    | (from[at + 2] & 0xff) << 16 | (from[at + 3] & 0xff) << 24;
        }

        static void storeLittle(int value, byte[] to, int at) {
            to[at] = (byte) value;
            to[at + 1] = (byte) (value >>> 8);
            to[at + 2] = (byte) (value >>> 16);
            to[at + 3] = (byte) (value >>> 24);
        }
    }

    /** The curve, hash and cipher of one engine, shared by its sessions. */
    private static final class Suite {
        final Curve25519 curve = new Curve25519();
        final Sha256 sha = new Sha256();
        final Hmac hmac = new Hmac(sha);
        final Aead aead = new Aead();
    }

    /** SHA-256 (FIPS 180-4): reset, absorb any number of times, finish. */
    private static final class Sha256 {
        private static final int BLOCK = 64;
        private static final int LENGTH_AT = 56;
        private static final int[] FIRST_CHAIN = {
            0x6a09e667, 0xbb67ae85, 0x3c6ef372, 0xa54ff53a, 0x510e527f, 0x9b05688c, 0x1f83d9ab, 0x5be0cd19,
        };
        private static final int[] ROUNDS = {
            0x428a2f98, 0x71374491, 0xb5c0fbcf, 0xe9b5dba5, 0x3956c25b, 0x59f111f1, 0x923f82a4, 0xab1c5ed5,
            0xd807aa98, 0x12835b01, 0x243185be, 0x550c7dc3, 0x72be5d74, 0x80deb1fe, 0x9bdc06a7, 0xc19bf174,
            0xe49b69c1, 0xefbe4786, 0x0fc19dc6, 0x240ca1cc, 0x2de92c6f, 0x4a7484aa, 0x5cb0a9dc, 0x76f988da,
            0x983e5152, 0xa831c66d, 0xb00327c8, 0xbf597fc7, 0xc6e00bf3, 0xd5a79147, 0x06ca6351, 0x14292967,
            0x27b70a85, 0x2e1b2138, 0x4d2c6dfc, 0x53380d13, 0x650a7354, 0x766a0abb, 0x81c2c92e, 0x92722c85,
            0xa2bfe8a1, 0xa81a664b, 0xc24b8b70, 0xc76c51a3, 0xd192e819, 0xd6990624, 0xf40e3585, 0x106aa070,
            0x19a4c116, 0x1e376c08, 0x2748774c, 0x34b0bcb5, 0x391c0cb3, 0x4ed8aa4a, 0x5b9cca4f, 0x682e6ff3,
            0x748f82ee, 0x78a5636f, 0x84c87814, 0x8cc70208, 0x90befffa, 0xa4506ceb, 0xbef9a3f7, 0xc67178f2,
        };

        private final int[] chain = new int[8];
        private final int[] schedule = new int[BLOCK];
        private final byte[] block = new byte[BLOCK];
        private int filled = 0;
        private long total = 0;

        void reset() {
            System.arraycopy(FIRST_CHAIN, 0, chain, 0, 8);
            filled = 0;
            total = 0;
        }

        void absorb(byte[] from, int at, int size) {
            for (int i = 0; i < size; i++) {
                block[filled] = from[at + i];
                filled++;
                if (filled == BLOCK) {
                    fillSchedule();
                    compress();
                    filled = 0;
                }
            }
            total += size;
        }

        void finish(byte[] to) {
            block[filled] = (byte) 0x80;
            clearBlock(filled + 1);
            if (filled >= LENGTH_AT) {
                fillSchedule();
                compress();
                clearBlock(0);
            }
            long bits = total * 8;
            Bytes.storeBig((int) (bits >>> 32), block, LENGTH_AT);
            Bytes.storeBig((int) bits, block, LENGTH_AT + 4);
            fillSchedule();
            compress();
            for (int i = 0; i < 8; i++) {
                Bytes.storeBig(chain[i], to, 4 * i);
            }
        }

        private void clearBlock(int from) {
            for (int i = from; i < BLOCK; i++) {
                block[i] = 0;
            }
        }

        private void fillSchedule() {
            for (int i = 0; i < 16; i++) {
                schedule[i] = Bytes.loadBig(block, 4 * i);
            }
            for (int i = 16; i < BLOCK; i++) {
                int x = schedule[i - 15];
                int y = schedule[i - 2];
                int small = Integer.rotateRight(x, 7) ^ Integer.rotateRight(x, 18) ^ x >>> 3;
                int large = Integer.rotateRight(y, 17) ^ Integer.rotateRight(y, 19) ^ y >>> 10;
                schedule[i] = schedule[i - 16] + small + schedule[i - 7] + large;
            }
        }

        private void compress() {
            int a = chain[0];
            int b = chain[1];
            int c = chain[2];
            int d = chain[3];
            int e = chain[4];
            int f = chain[5];
            int g = chain[6];
            int h = chain[7];
            for (int i = 0; i < BLOCK; i++) {
                int mixedE = Integer.rotateRight(e, 6) ^ Integer.rotateRight(e, 11) ^ Integer.rotateRight(e, 25);
                int chosen = e & f ^ ~e & g;
                int first = h + mixedE + chosen + ROUNDS[i] + schedule[i];
                int mixedA = Integer.rotateRight(a, 2) ^ Integer.rotateRight(a, 13) ^ Integer.rotateRight(a, 22);
                int majority = a & b ^ a & c ^ b & c;
                h = g;
                g = f;
                f = e;
                e = d + first;
                d = c;
                c = b;
                b = a;
                a = first + mixedA + majority;
            }
            chain[0] += a;
            chain[1] += b;
            chain[2] += c;
            chain[3] += d;
            chain[4] += e;
            chain[5] += f;
            chain[6] += g;
            chain[7] += h;
        }
    }

    /** HMAC (RFC 2104) by keys of 32 bytes, and the framework's HKDF upon it. */
    private static final class Hmac {
        private static final int BLOCK = 64;
        private static final int INNER = 0x36;
        private static final int OUTER = 0x5c;
        private static final byte[] COUNTERS = {1, 2};

        private final Sha256 sha;
        private final byte[] pad = new byte[BLOCK];
        private final byte[] inner = new byte[WIDTH];
        private final byte[] extracted = new byte[WIDTH];

        Hmac(Sha256 sha) {
            this.sha = sha;
        }

        void begin(byte[] by) {
            for (int i = 0; i < BLOCK; i++) {
                pad[i] = (byte) (i < WIDTH ? by[i] ^ INNER : INNER);
            }
            sha.reset();
            sha.absorb(pad, 0, BLOCK);
        }

        void absorb(byte[] from, int at, int size) {
            sha.absorb(from, at, size);
        }

        void finish(byte[] to) {
            sha.finish(inner);
            for (int i = 0; i < BLOCK; i++) {
                pad[i] ^= INNER ^ OUTER;
            }
            sha.reset();
            sha.absorb(pad, 0, BLOCK);
            sha.absorb(inner, 0, WIDTH);
            sha.finish(to);
        }

        /** HKDF with two outputs; the first one may be the row of the chaining key itself. */
        void hkdf(byte[] chainingKey, byte[] input, int size, byte[] first, byte[] second) {
            begin(chainingKey);
            absorb(input, 0, size);
            finish(extracted);
            begin(extracted);
            absorb(COUNTERS, 0, 1);
            finish(first);
            begin(extracted);
            absorb(first, 0, WIDTH);
            absorb(COUNTERS, 1, 1);
            finish(second);
        }
    }

    /**
     * X25519 (RFC 7748). A number modulo 2^255 - 19 is a row of ten signed limbs, of 26 and 25 bits
     * in turns, so that a sum of ten products of limbs stays within a long.
     */
    private static final class Curve25519 {
        private static final int LIMBS = 10;
        private static final int TOP_BIT = 254;
        private static final long A24 = 121665;
        private static final byte[] BASE = {
            9, 0, 0, 0, 0, 0, 0, 0, 0, 0, 0, 0, 0, 0, 0, 0,
            0, 0, 0, 0, 0, 0, 0, 0, 0, 0, 0, 0, 0, 0, 0, 0,
        };
        /** The bit at which each limb begins. */
        private static final int[] LIMB_AT = {0, 26, 51, 77, 102, 128, 153, 179, 204, 230};

        private final byte[] scalar = new byte[WIDTH];
        private final byte[] product = new byte[WIDTH];
        private final long[] x1 = new long[LIMBS];
        private final long[] x2 = new long[LIMBS];
        private final long[] z2 = new long[LIMBS];
        private final long[] x3 = new long[LIMBS];
        private final long[] z3 = new long[LIMBS];
        private final long[] sum = new long[LIMBS];
        private final long[] difference = new long[LIMBS];

        byte[] publicKey(byte[] secret) {
            return multiply(secret, BASE);
        }

        /** The row that comes back is used again by the next call. */
        byte[] multiply(byte[] secret, byte[] point) {
            decodeScalar(secret);
            decodePoint(point);
            climb();
            invert(sum, z2);
            multiplyLimbs(x2, x2, sum);
            encode(x2);
            return product;
        }

        private void decodeScalar(byte[] secret) {
            System.arraycopy(secret, 0, scalar, 0, WIDTH);
            scalar[0] &= (byte) 248;
            scalar[31] &= 127;
            scalar[31] |= 64;
        }

        /** The last limb ends below bit 255: that masks the highest bit. */
        private void decodePoint(byte[] point) {
            for (int i = 0; i < LIMBS; i++) {
                int bits = Bytes.loadLittle(point, LIMB_AT[i] >> 3) >>> (LIMB_AT[i] & 7);
                x1[i] = bits & (1 << limbBits(i)) - 1;
            }
        }

        private static int limbBits(int i) {
            return 26 - (i & 1);
        }

        /** The Montgomery ladder: x2 : z2 is the product in the end. */
        private void climb() {
            setSmall(x2, 1);
            setSmall(z2, 0);
            System.arraycopy(x1, 0, x3, 0, LIMBS);
            setSmall(z3, 1);
            int swapped = 0;
            for (int i = TOP_BIT; i >= 0; i--) {
                int bit = scalar[i >> 3] >> (i & 7) & 1;
                swapIf(swapped ^ bit, x2, x3);
                swapIf(swapped ^ bit, z2, z3);
                swapped = bit;
                step();
            }
            swapIf(swapped, x2, x3);
            swapIf(swapped, z2, z3);
        }

        private void step() {
            subtract(difference, x2, z2);
            add(sum, x2, z2);
            add(x2, x3, z3);
            subtract(z3, x3, z3);
            multiplyLimbs(x3, z3, sum);
            multiplyLimbs(z3, x2, difference);
            multiplyLimbs(sum, sum, sum);
            multiplyLimbs(difference, difference, difference);
            multiplyLimbs(x2, sum, difference);
            subtract(difference, sum, difference);
            scale(z2, difference, A24);
            add(z2, z2, sum);
            multiplyLimbs(z2, z2, difference);
            add(sum, x3, z3);
            subtract(z3, x3, z3);
            multiplyLimbs(x3, sum, sum);
            multiplyLimbs(z3, z3, z3);
            multiplyLimbs(z3, z3, x1);
        }

        /** By a mask, so that the work done does not depend on the secret. */
        private static void swapIf(int bit, long[] f, long[] g) {
            long mask = -(long) bit;
            for (int i = 0; i < LIMBS; i++) {
                long change = mask & (f[i] ^ g[i]);
                f[i] ^= change;
                g[i] ^= change;
            }
        }

        private static void setSmall(long[] to, int value) {
            to[0] = value;
            for (int i = 1; i < LIMBS; i++) {
                to[i] = 0;
            }
        }

        private static void add(long[] to, long[] f, long[] g) {
            for (int i = 0; i < LIMBS; i++) {
                to[i] = f[i] + g[i];
            }
        }

        private static void subtract(long[] to, long[] f, long[] g) {
            for (int i = 0; i < LIMBS; i++) {
                to[i] = f[i] - g[i];
            }
        }

        private static void scale(long[] to, long[] f, long factor) {
            for (int i = 0; i < LIMBS; i++) {
                to[i] = f[i] * factor;
            }
            carry(to);
        }

        /**
         * Written out because it is nearly all the work of the curve. Two odd limbs overlap by a bit
         * (hence d, twice f), and what passes bit 255 comes back 19 times (hence u, 19 times g).
         */
        private static void multiplyLimbs(long[] to, long[] f, long[] g) {
            long f0 = f[0], f1 = f[1], f2 = f[2], f3 = f[3], f4 = f[4];
            long f5 = f[5], f6 = f[6], f7 = f[7], f8 = f[8], f9 = f[9];
            long g0 = g[0], g1 = g[1], g2 = g[2], g3 = g[3], g4 = g[4];
            long g5 = g[5], g6 = g[6], g7 = g[7], g8 = g[8], g9 = g[9];
            long d1 = 2 * f1, d3 = 2 * f3, d5 = 2 * f5, d7 = 2 * f7, d9 = 2 * f9;
            long u1 = 19 * g1, u2 = 19 * g2, u3 = 19 * g3, u4 = 19 * g4, u5 = 19 * g5;
            long u6 = 19 * g6, u7 = 19 * g7, u8 = 19 * g8, u9 = 19 * g9;
            to[0] = f0 * g0 + d1 * u9 + f2 * u8 + d3 * u7 + f4 * u6
                    + d5 * u5 + f6 * u4 + d7 * u3 + f8 * u2 + d9 * u1;
            to[1] = f0 * g1 + f1 * g0 + f2 * u9 + f3 * u8 + f4 * u7
                    + f5 * u6 + f6 * u5 + f7 * u4 + f8 * u3 + f9 * u2;
            to[2] = f0 * g2 + d1 * g1 + f2 * g0 + d3 * u9 + f4 * u8
                    + d5 * u7 + f6 * u6 + d7 * u5 + f8 * u4 + d9 * u3;
            to[3] = f0 * g3 + f1 * g2 + f2 * g1 + f3 * g0 + f4 * u9
                    + f5 * u8 + f6 * u7 + f7 * u6 + f8 * u5 + f9 * u4;
            to[4] = f0 * g4 + d1 * g3 + f2 * g2 + d3 * g1 + f4 * g0
                    + d5 * u9 + f6 * u8 + d7 * u7 + f8 * u6 + d9 * u5;
            to[5] = f0 * g5 + f1 * g4 + f2 * g3 + f3 * g2 + f4 * g1
                    + f5 * g0 + f6 * u9 + f7 * u8 + f8 * u7 + f9 * u6;
            to[6] = f0 * g6 + d1 * g5 + f2 * g4 + d3 * g3 + f4 * g2
                    + d5 * g1 + f6 * g0 + d7 * u9 + f8 * u8 + d9 * u7;
            to[7] = f0 * g7 + f1 * g6 + f2 * g5 + f3 * g4 + f4 * g3
                    + f5 * g2 + f6 * g1 + f7 * g0 + f8 * u9 + f9 * u8;
            to[8] = f0 * g8 + d1 * g7 + f2 * g6 + d3 * g5 + f4 * g4
                    + d5 * g3 + f6 * g2 + d7 * g1 + f8 * g0 + d9 * u9;
            to[9] = f0 * g9 + f1 * g8 + f2 * g7 + f3 * g6 + f4 * g5
                    + f5 * g4 + f6 * g3 + f7 * g2 + f8 * g1 + f9 * g0;
            carry(to);
        }

        /** Rounds to the nearest, so that limbs stay small on both sides of 0. */
        private static void carry(long[] h) {
            long over = 0;
            for (int i = 0; i < LIMBS; i += 2) {
                long even = h[i] + over;
                over = even + (1L << 25) >> 26;
                h[i] = even - (over << 26);
                long odd = h[i + 1] + over;
                over = odd + (1L << 24) >> 25;
                h[i + 1] = odd - (over << 25);
            }
            h[0] += 19 * over;
            over = h[0] + (1L << 25) >> 26;
            h[0] -= over << 26;
            h[1] += over;
        }

        /** f to the power p - 2, of whose 255 bits all but 2 and 4 are 1. */
        private static void invert(long[] to, long[] f) {
            System.arraycopy(f, 0, to, 0, LIMBS);
            for (int i = TOP_BIT - 1; i >= 0; i--) {
                multiplyLimbs(to, to, to);
                if (i != 2 && i != 4) {
                    multiplyLimbs(to, to, f);
                }
            }
        }

        private void encode(long[] h) {
            reduce(h);
            for (int i = 0; i < WIDTH; i++) {
                product[i] = 0;
            }
            for (int i = 0; i < LIMBS; i++) {
                int at = LIMB_AT[i] >> 3;
                int bits = Bytes.loadLittle(product, at) | (int) h[i] << (LIMB_AT[i] & 7);
                Bytes.storeLittle(bits, product, at);
            }
        }

        /** Into 0 to p - 1: over counts first how often p goes into h, by a trial carry. */
        private static void reduce(long[] h) {
            long over = 19 * h[9] + (1L << 24) >> 25;
            for (int i = 0; i < LIMBS; i++) {
                over = h[i] + over >> limbBits(i);
            }
            over *= 19;
            for (int i = 0; i < LIMBS; i++) {
                long limb = h[i] + over;
                over = limb >> limbBits(i);
                h[i] = limb - (over << limbBits(i));
            }
        }
    }

    /** ChaCha20 (RFC 8439), a block of the key stream at a time. */
    private static final class ChaCha20 {
        private static final int WORDS = 16;
        private static final int BLOCK = 64;
        private static final int ROUNDS = 20;

        final byte[] stream = new byte[BLOCK];
        private final int[] input = new int[WORDS];
        private final int[] work = new int[WORDS];

        void begin(byte[] by, long n) {
            input[0] = 0x61707865;
            input[1] = 0x3320646e;
            input[2] = 0x79622d32;
            input[3] = 0x6b206574;
            for (int i = 0; i < 8; i++) {
                input[4 + i] = Bytes.loadLittle(by, 4 * i);
            }
            input[12] = 0;
            input[13] = 0;
            input[14] = (int) n;
            input[15] = (int) (n >>> 32);
        }

        void nextBlock() {
            System.arraycopy(input, 0, work, 0, WORDS);
            for (int round = 0; round < ROUNDS; round++) {
                quarterRounds(round & 1);
            }
            for (int i = 0; i < WORDS; i++) {
                Bytes.storeLittle(work[i] + input[i], stream, 4 * i);
            }
            input[12]++;
        }

        /** Four of them: along the columns (slant 0) or the diagonals (slant 1). */
        private void quarterRounds(int slant) {
            for (int i = 0; i < 4; i++) {
                int atB = 4 + (i + slant & 3);
                int atC = 8 + (i + 2 * slant & 3);
                int atD = 12 + (i + 3 * slant & 3);
                int a = work[i] + work[atB];
                int d = work[atD] ^ a;
                d = d << 16 | d >>> 16;
                int c = work[atC] + d;
                int b = work[atB] ^ c;
                b = b << 12 | b >>> 20;
                a += b;
                d ^= a;
                d = d << 8 | d >>> 24;
                c += d;
                b ^= c;
                b = b << 7 | b >>> 25;
                work[i] = a;
                work[atB] = b;
                work[atC] = c;
                work[atD] = d;
            }
        }
    }

    /** Poly1305 (RFC 8439) over parts that are each padded to 16 bytes; five limbs of 26 bits. */
    private static final class Poly1305 {
        private static final int BLOCK = 16;
        private static final int MASK = 0x3ffffff;
        private static final long LOW_32 = 0xffffffffL;

        private final long[] r = new long[5];
        private final long[] h = new long[5];
        private final byte[] block = new byte[BLOCK];
        private final int[] last = new int[4];

        void begin(byte[] by) {
            r[0] = Bytes.loadLittle(by, 0) & 0x3ffffff;
            r[1] = Bytes.loadLittle(by, 3) >>> 2 & 0x3ffff03;
            r[2] = Bytes.loadLittle(by, 6) >>> 4 & 0x3ffc0ff;
            r[3] = Bytes.loadLittle(by, 9) >>> 6 & 0x3f03fff;
            r[4] = Bytes.loadLittle(by, 12) >>> 8 & 0x00fffff;
            for (int i = 0; i < 5; i++) {
                h[i] = 0;
            }
            for (int i = 0; i < 4; i++) {
                last[i] = Bytes.loadLittle(by, 16 + 4 * i);
            }
        }

        void absorb(byte[] from, int at, int size) {
            for (int done = 0; done < size; done += BLOCK) {
                for (int i = 0; i < BLOCK; i++) {
                    block[i] = done + i < size ? from[at + done + i] : 0;
                }
                addBlock();
            }
        }

        /** The lengths of both parts come last, as the AEAD has it. */
        void finish(int associated, int sealed, byte[] tag) {
            Bytes.storeLittle(associated, block, 0);
            Bytes.storeLittle(0, block, 4);
            Bytes.storeLittle(sealed, block, 8);
            Bytes.storeLittle(0, block, 12);
            addBlock();
            reduce();
            long sum = (h[0] | h[1] << 26) & LOW_32;
            sum += last[0] & LOW_32;
            Bytes.storeLittle((int) sum, tag, 0);
            sum = (sum >>> 32) + ((h[1] >>> 6 | h[2] << 20) & LOW_32) + (last[1] & LOW_32);
            Bytes.storeLittle((int) sum, tag, 4);
            sum = (sum >>> 32) + ((h[2] >>> 12 | h[3] << 14) & LOW_32) + (last[2] & LOW_32);
            Bytes.storeLittle((int) sum, tag, 8);
            sum = (sum >>> 32) + ((h[3] >>> 18 | h[4] << 8) & LOW_32) + (last[3] & LOW_32);
            Bytes.storeLittle((int) sum, tag, 12);
        }

        private void addBlock() {
            long h0 = h[0] + (Bytes.loadLittle(block, 0) & MASK);
            long h1 = h[1] + (Bytes.loadLittle(block, 3) >>> 2 & MASK);
            long h2 = h[2] + (Bytes.loadLittle(block, 6) >>> 4 & MASK);
            long h3 = h[3] + (Bytes.loadLittle(block, 9) >>> 6 & MASK);
            long h4 = h[4] + (Bytes.loadLittle(block, 12) >>> 8 | 1 << 24);
            long r0 = r[0], r1 = r[1], r2 = r[2], r3 = r[3], r4 = r[4];
            // What passes bit 130 comes back 5 times.
            long u1 = 5 * r1, u2 = 5 * r2, u3 = 5 * r3, u4 = 5 * r4;
            h[0] = h0 * r0 + h1 * u4 + h2 * u3 + h3 * u2 + h4 * u1;
            h[1] = h0 * r1 + h1 * r0 + h2 * u4 + h3 * u3 + h4 * u2;
            h[2] = h0 * r2 + h1 * r1 + h2 * r0 + h3 * u4 + h4 * u3;
            h[3] = h0 * r3 + h1 * r2 + h2 * r1 + h3 * r0 + h4 * u4;
            h[4] = h0 * r4 + h1 * r3 + h2 * r2 + h3 * r1 + h4 * r0;
            carry();
        }

        private void carry() {
            long over = 0;
            for (int i = 0; i < 5; i++) {
                long limb = h[i] + over;
                over = limb >>> 26;
                h[i] = limb & MASK;
            }
            h[0] += 5 * over;
        }

        /**
         * Into 0 to p - 1: if h + 5 passes bit 130, then h + 5 without that bit is h - p. Once is
         * enough, since carry() leaves h far below 2 p.
         */
        private void reduce() {
            long over = 5;
            for (int i = 0; i < 5; i++) {
                over = h[i] + over >>> 26;
            }
            h[0] += 5 * over;
            for (int i = 0; i < 4; i++) {
                h[i + 1] += h[i] >>> 26;
                h[i] &= MASK;
            }
            h[4] &= MASK;
        }
    }

    /** AEAD_CHACHA20_POLY1305 (RFC 8439): begin, associate, then encrypt or decrypt. */
    private static final class Aead {
        private final ChaCha20 cipher = new ChaCha20();
        private final Poly1305 poly = new Poly1305();
        private final byte[] tag = new byte[TAG_SIZE];
        private int associated = 0;

        void begin(byte[] by, long n) {
            cipher.begin(by, n);
            cipher.nextBlock();
            poly.begin(cipher.stream);
        }

        void associate(byte[] data, int size) {
            poly.absorb(data, 0, size);
            associated = size;
        }

        void encrypt(byte[] plain, int from, int size, byte[] to, int at) {
            applyStream(plain, from, size, to, at);
            poly.absorb(to, at, size);
            poly.finish(associated, size, tag);
            System.arraycopy(tag, 0, to, at + size, TAG_SIZE);
        }

        /** Nothing is put down unless the tag is right. */
        boolean decrypt(byte[] sealed, int from, int size, byte[] to, int at) {
            int plainSize = size - TAG_SIZE;
            if (plainSize < 0) {
                return false;
            }
            poly.absorb(sealed, from, plainSize);
            poly.finish(associated, plainSize, tag);
            int differences = 0;
            for (int i = 0; i < TAG_SIZE; i++) {
                differences |= tag[i] ^ sealed[from + plainSize + i];
            }
            if (differences != 0) {
                return false;
            }
            applyStream(sealed, from, plainSize, to, at);
            return true;
        }

        private void applyStream(byte[] source, int from, int size, byte[] to, int at) {
            for (int i = 0; i < size; i++) {
                int within = i & 63;
                if (within == 0) {
                    cipher.nextBlock();
                }
                to[at + i] = (byte) (source[from + i] ^ cipher.stream[within]);
            }
        }
    }

    /** The framework's CipherState. */
    private static final class CipherState {
        private static final long LAST_NONCE = -1L;
        private static final byte[] NOTHING = {};
        private static final byte[] ZEROS = {
            0, 0, 0, 0, 0, 0, 0, 0, 0, 0, 0, 0, 0, 0, 0, 0,
            0, 0, 0, 0, 0, 0, 0, 0, 0, 0, 0, 0, 0, 0, 0, 0,
        };

        final byte[] k = new byte[WIDTH];
        private final byte[] renewed = new byte[WIDTH + TAG_SIZE];
        private final Aead aead;
        private boolean keyed = false;
        private long n = 0;

        CipherState(Aead aead) {
            this.aead = aead;
        }

        void forgetKey() {
            keyed = false;
            n = 0;
        }

        /** InitializeKey, once the key is in k. */
        void useNewKey() {
            keyed = true;
            n = 0;
        }

        void copyFrom(CipherState other) {
            System.arraycopy(other.k, 0, k, 0, WIDTH);
            keyed = other.keyed;
            n = other.n;
        }

        int nonce() {
            return (int) n;
        }

        int encryptWithAd(byte[] ad, byte[] plain, int from, int size, byte[] to, int at) {
            if (!keyed) {
                System.arraycopy(plain, from, to, at, size);
                return size;
            }
            aead.begin(k, n);
            aead.associate(ad, ad.length);
            aead.encrypt(plain, from, size, to, at);
            n++;
            return size + TAG_SIZE;
        }

        /** NONE: refused, and nothing is put down. */
        int decryptWithAd(byte[] ad, byte[] sealed, int from, int size, byte[] to, int at) {
            if (!keyed) {
                System.arraycopy(sealed, from, to, at, size);
                return size;
            }
            aead.begin(k, n);
            aead.associate(ad, ad.length);
            if (!aead.decrypt(sealed, from, size, to, at)) {
                return NONE;
            }
            n++;
            return size - TAG_SIZE;
        }

        /** REKEY; n goes on as it was. */
        void renewKey() {
            aead.begin(k, LAST_NONCE);
            aead.associate(NOTHING, 0);
            aead.encrypt(ZEROS, 0, WIDTH, renewed, 0);
            System.arraycopy(renewed, 0, k, 0, WIDTH);
        }
    }

    /** The framework's SymmetricState. */
    private static final class SymmetricState {
        /** Exactly as long as a hash, so that it is the first h as it stands. */
        private static final String PROTOCOL = "Noise_XX_25519_ChaChaPoly_SHA256";

        final byte[] h = new byte[WIDTH];
        private final byte[] ck = new byte[WIDTH];
        private final CipherState cipher;
        private final Sha256 sha;
        private final Hmac hmac;

        SymmetricState(Suite suite) {
            cipher = new CipherState(suite.aead);
            sha = suite.sha;
            hmac = suite.hmac;
        }

        void initialize() {
            for (int i = 0; i < WIDTH; i++) {
                h[i] = (byte) PROTOCOL.charAt(i);
                ck[i] = h[i];
            }
            cipher.forgetKey();
        }

        void copyFrom(SymmetricState other) {
            System.arraycopy(other.h, 0, h, 0, WIDTH);
            System.arraycopy(other.ck, 0, ck, 0, WIDTH);
            cipher.copyFrom(other.cipher);
        }

        void mixKey(byte[] secret) {
            hmac.hkdf(ck, secret, WIDTH, ck, cipher.k);
            cipher.useNewKey();
        }

        void mixHash(byte[] data, int from, int size) {
            sha.reset();
            sha.absorb(h, 0, WIDTH);
            sha.absorb(data, from, size);
            sha.finish(h);
        }

        int encryptAndHash(byte[] plain, int from, int size, byte[] to, int at) {
            int written = cipher.encryptWithAd(h, plain, from, size, to, at);
            mixHash(to, at, written);
            return written;
        }

        int decryptAndHash(byte[] sealed, int from, int size, byte[] to, int at) {
            int opened = cipher.decryptWithAd(h, sealed, from, size, to, at);
            if (opened != NONE) {
                mixHash(sealed, from, size);
            }
            return opened;
        }

        void split(CipherState first, CipherState second) {
            hmac.hkdf(ck, CipherState.NOTHING, 0, first.k, second.k);
            first.useNewKey();
            second.useNewKey();
        }
    }

    /** The framework's HandshakeState for XX, and the transport behind it. */
    private static final class Session {
        private static final int OVER = 3;
        private static final int NOT_BEGUN = -1;
        /** The bytes of each message when its payload is empty. */
        private static final int[] SHORTEST = {32, 96, 64};

        private final Curve25519 curve;
        private final SymmetricState symmetric;
        private final SymmetricState spare;
        private final CipherState sending;
        private final CipherState receiving;
        private final byte[] ownStatic = new byte[WIDTH];
        private final byte[] ownEphemeral = new byte[WIDTH];
        private final byte[] otherStatic = new byte[WIDTH];
        private final byte[] otherEphemeral = new byte[WIDTH];
        private boolean initiator = false;
        private int step = NOT_BEGUN;
        private int refused = 0;

        Session(Suite suite, SymmetricState spare) {
            curve = suite.curve;
            symmetric = new SymmetricState(suite);
            this.spare = spare;
            sending = new CipherState(suite.aead);
            receiving = new CipherState(suite.aead);
        }

        void begin(boolean asInitiator, byte[] fixed, byte[] passing, byte[] prologue, int n) {
            initiator = asInitiator;
            step = 0;
            refused = 0;
            System.arraycopy(fixed, 0, ownStatic, 0, WIDTH);
            System.arraycopy(passing, 0, ownEphemeral, 0, WIDTH);
            sending.forgetKey();
            receiving.forgetKey();
            symmetric.initialize();
            symmetric.mixHash(prologue, 0, n);
        }

        boolean hasBegun() {
            return step != NOT_BEGUN;
        }

        boolean isOver() {
            return step == OVER;
        }

        boolean writesNext() {
            return step < OVER && initiator == (step != 1);
        }

        boolean readsNext() {
            return step < OVER && initiator == (step == 1);
        }

        /** Only where writesNext(). Message 0: e; 1: e, ee, s, es; 2: s, se; then the payload. */
        int writeMessage(byte[] payload, int n, byte[] to) {
            int size = 0;
            if (step != 2) {
                System.arraycopy(curve.publicKey(ownEphemeral), 0, to, 0, WIDTH);
                symmetric.mixHash(to, 0, WIDTH);
                size = WIDTH;
            }
            if (step == 1) {
                symmetric.mixKey(curve.multiply(ownEphemeral, otherEphemeral));
            }
            if (step != 0) {
                size += symmetric.encryptAndHash(curve.publicKey(ownStatic), 0, WIDTH, to, size);
                // Message 1 is the responder's and 2 the initiator's: es and se are both this, to the writer.
                symmetric.mixKey(curve.multiply(ownStatic, otherEphemeral));
            }
            size += symmetric.encryptAndHash(payload, 0, n, to, size);
            step++;
            if (step == OVER) {
                // The initiator alone ends by writing: it sends by the first one.
                symmetric.split(sending, receiving);
            }
            return size;
        }

        /** Only where readsNext(). NONE: refused; the payload's row and the handshake stay as they were. */
        int readMessage(byte[] message, int n, byte[] payload) {
            if (step < 0 || step >= OVER || n < SHORTEST[step]) {
                refused++;
                return NONE;
            }
            spare.copyFrom(symmetric);
            int at = 0;
            if (step != 2) {
                System.arraycopy(message, 0, otherEphemeral, 0, WIDTH);
                symmetric.mixHash(message, 0, WIDTH);
                at = WIDTH;
            }
            if (step == 1) {
                symmetric.mixKey(curve.multiply(ownEphemeral, otherEphemeral));
            }
            if (step != 0) {
                if (symmetric.decryptAndHash(message, at, WIDTH + TAG_SIZE, otherStatic, 0) == NONE) {
                    return refuse();
                }
                symmetric.mixKey(curve.multiply(ownEphemeral, otherStatic));
                at += WIDTH + TAG_SIZE;
            }
            int size = symmetric.decryptAndHash(message, at, n - at, payload, 0);
            if (size == NONE) {
                return refuse();
            }
            step++;
            if (step == OVER) {
                // The responder alone ends by reading: it receives by the first one.
                symmetric.split(receiving, sending);
            }
            return size;
        }

        /** The other one's keys need no way back: they are known by the step alone. */
        private int refuse() {
            symmetric.copyFrom(spare);
            refused++;
            return NONE;
        }

        int sendMessage(byte[] payload, int n, byte[] to) {
            return sending.encryptWithAd(CipherState.NOTHING, payload, 0, n, to, 0);
        }

        int receiveMessage(byte[] message, int n, byte[] payload) {
            int size = receiving.decryptWithAd(CipherState.NOTHING, message, 0, n, payload, 0);
            if (size == NONE) {
                refused++;
            }
            return size;
        }

        void renewKey(boolean ofSending) {
            if (ofSending) {
                sending.renewKey();
            } else {
                receiving.renewKey();
            }
        }

        int figure(int what) {
            switch (what) {
                case 0:
                    return step;
                case 1:
                    return initiator ? 1 : 0;
                case 2:
                    return knowsStatic() ? 1 : 0;
                case 3:
                    return sending.nonce();
                case 4:
                    return receiving.nonce();
                case 5:
                    return refused;
                default:
                    return NONE;
            }
        }

        int knownByte(int which, int k) {
            if (which == 0) {
                return symmetric.h[k] & 0xff;
            }
            if (which == 1 && knowsStatic()) {
                return otherStatic[k] & 0xff;
            }
            if (which == 2 && knowsEphemeral()) {
                return otherEphemeral[k] & 0xff;
            }
            return NONE;
        }

        private boolean knowsStatic() {
            return step >= (initiator ? 2 : OVER);
        }

        private boolean knowsEphemeral() {
            return step >= (initiator ? 2 : 1);
        }
    }
}
