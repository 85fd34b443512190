import java.util.Arrays;

/** The document's promises once more, in the plainest way and upon the Java library. */
final class ReferenceEngine {
    private static final byte[] NAME = Check.bytes(Check.asciiHex("Noise_XX_25519_ChaChaPoly_SHA256"));
    private static final byte[] NOTHING = {};

    private byte[] tape = NOTHING;
    private byte[] out = NOTHING;
    private final byte[][] keys = new byte[8][32];
    private final Session[] sessions = new Session[4];

    /** All of a session, so that a copy of it is the way back from a refused message. */
    private static final class Session implements Cloneable {
        boolean initiator;
        byte[] ownStatic;
        byte[] ownEphemeral;
        byte[] otherStatic;
        byte[] otherEphemeral;
        byte[] h = NAME;
        byte[] ck = NAME;
        byte[] k;
        long n;
        int step;
        int refused;
        byte[][] transportKeys;
        long[] transportNs = {0, 0};

        Session copy() {
            try {
                Session copy = (Session) clone();
                copy.transportNs = transportNs.clone();
                return copy;
            } catch (CloneNotSupportedException e) {
                throw new IllegalStateException(e);
            }
        }

        void mixHash(byte[] data) {
            h = Reference.sha256(Reference.join(h, data));
        }

        void mixKey(byte[] secret, byte[] point) {
            byte[][] both = Reference.hkdf(ck, Reference.x25519(secret, point));
            ck = both[0];
            k = both[1];
            n = 0;
        }

        byte[] encryptAndHash(byte[] plain) {
            byte[] sealed = k == null ? plain : Reference.seal(k, n++, h, plain);
            mixHash(sealed);
            return sealed;
        }

        byte[] decryptAndHash(byte[] sealed) {
            byte[] plain = k == null ? sealed : Reference.open(k, n++, h, sealed);
            mixHash(sealed);
            return plain;
        }

        void done() {
            step++;
            if (step == 3) {
                transportKeys = Reference.hkdf(ck, NOTHING);
            }
        }

        boolean writesNext() {
            return step == 0 && initiator || step == 1 && !initiator || step == 2 && initiator;
        }

        int way(boolean sending) {
            return sending == initiator ? 0 : 1;
        }
    }

    private boolean isKey(int k) {
        return 0 <= k && k <= 7;
    }

    private Session session(int s) {
        return 0 <= s && s <= 3 ? sessions[s] : null;
    }

    private boolean has(long n) {
        return n >= 0 && n <= tape.length;
    }

    private byte[] pull(int n) {
        byte[] pulled = Arrays.copyOf(tape, n);
        tape = NOTHING;
        return pulled;
    }

    private int give(byte[] bytes) {
        if (bytes == null) {
            return -1;
        }
        out = bytes;
        return bytes.length;
    }

    int feed(int[] numbers) {
        if (tape.length + 20 > 1000) {
            return -1;
        }
        byte[] bytes = new byte[20];
        for (int i = 0; i < 20; i++) {
            bytes[i] = (byte) (numbers[i / 4] >>> 24 - 8 * (i % 4));
        }
        tape = Reference.join(tape, bytes);
        return tape.length;
    }

    int turn() {
        tape = out.clone();
        return tape.length;
    }

    boolean patch(int k, int v) {
        if (k < 0 || k >= tape.length) {
            return false;
        }
        tape[k] = (byte) v;
        return true;
    }

    boolean key(int k) {
        if (!isKey(k) || !has(32)) {
            return false;
        }
        keys[k] = pull(32);
        return true;
    }

    boolean take(int k) {
        if (!isKey(k) || out.length < 32) {
            return false;
        }
        keys[k] = Arrays.copyOf(out, 32);
        return true;
    }

    int curve(int k, boolean own) {
        if (!isKey(k) || !own && !has(32)) {
            return -2;
        }
        return give(own ? Reference.publicKey(keys[k]) : Reference.x25519(keys[k], pull(32)));
    }

    int hash(int n) {
        return has(n) ? give(Reference.sha256(pull(n))) : -2;
    }

    int mac(int k, int n) {
        return isKey(k) && has(n) ? give(Reference.hmac(keys[k], pull(n))) : -2;
    }

    int seal(int k, long n, int a, int b) {
        if (!isKey(k) || a < 0 || b < 0 || b > 984 || !has((long) a + b)) {
            return -2;
        }
        byte[] both = pull(a + b);
        return give(Reference.seal(keys[k], n, Reference.part(both, 0, a), Reference.part(both, a, b)));
    }

    int open(int k, long n, int a, int b) {
        if (!isKey(k) || a < 0 || b < 0 || !has((long) a + b)) {
            return -2;
        }
        byte[] both = pull(a + b);
        return give(Reference.open(keys[k], n, Reference.part(both, 0, a), Reference.part(both, a, b)));
    }

    boolean start(int s, boolean initiator, int fixed, int passing, int n) {
        if (s < 0 || s > 3 || !isKey(fixed) || !isKey(passing) || !has(n)) {
            return false;
        }
        Session begun = new Session();
        begun.initiator = initiator;
        begun.ownStatic = keys[fixed].clone();
        begun.ownEphemeral = keys[passing].clone();
        begun.mixHash(pull(n));
        sessions[s] = begun;
        return true;
    }

    int write(int s, int n) {
        Session x = session(s);
        if (x == null || n > 900 || !has(n)) {
            return -2;
        }
        byte[] payload = pull(n);
        if (!x.writesNext()) {
            return -1;
        }
        byte[] message = NOTHING;
        switch (x.step) {
            case 0:
                message = writeE(x);
                break;
            case 1:
                message = writeE(x);
                x.mixKey(x.ownEphemeral, x.otherEphemeral);
                message = Reference.join(message, x.encryptAndHash(Reference.publicKey(x.ownStatic)));
                x.mixKey(x.ownStatic, x.otherEphemeral);
                break;
            default:
                message = x.encryptAndHash(Reference.publicKey(x.ownStatic));
                x.mixKey(x.ownStatic, x.otherEphemeral);
        }
        message = Reference.join(message, x.encryptAndHash(payload));
        x.done();
        return give(message);
    }

    private byte[] writeE(Session x) {
        byte[] e = Reference.publicKey(x.ownEphemeral);
        x.mixHash(e);
        return e;
    }

    int read(int s, int n) {
        Session x = session(s);
        if (x == null || !has(n)) {
            return -2;
        }
        byte[] message = pull(n);
        if (x.step == 3 || x.writesNext()) {
            return -1;
        }
        Session trial = x.copy();
        byte[] payload = readInto(trial, message);
        if (payload == null) {
            x.refused++;
            return -1;
        }
        trial.done();
        sessions[s] = trial;
        return give(payload);
    }

    private byte[] readInto(Session x, byte[] message) {
        byte[] rest = message;
        if (x.step < 2) {
            if (rest.length < 32) {
                return null;
            }
            x.otherEphemeral = Reference.part(rest, 0, 32);
            x.mixHash(x.otherEphemeral);
            rest = Reference.part(rest, 32, rest.length - 32);
        }
        if (x.step == 1) {
            x.mixKey(x.ownEphemeral, x.otherEphemeral);
        }
        if (x.step > 0) {
            if (rest.length < 48) {
                return null;
            }
            x.otherStatic = x.decryptAndHash(Reference.part(rest, 0, 48));
            if (x.otherStatic == null) {
                return null;
            }
            x.mixKey(x.ownEphemeral, x.otherStatic);
            rest = Reference.part(rest, 48, rest.length - 48);
        }
        return x.decryptAndHash(rest);
    }

    int send(int s, int n) {
        Session x = session(s);
        if (x == null || n > 900 || !has(n)) {
            return -2;
        }
        byte[] plain = pull(n);
        if (x.step < 3) {
            return -1;
        }
        int way = x.way(true);
        return give(Reference.seal(x.transportKeys[way], x.transportNs[way]++, NOTHING, plain));
    }

    int receive(int s, int n) {
        Session x = session(s);
        if (x == null || !has(n)) {
            return -2;
        }
        byte[] sealed = pull(n);
        if (x.step < 3) {
            return -1;
        }
        int way = x.way(false);
        byte[] plain = Reference.open(x.transportKeys[way], x.transportNs[way], NOTHING, sealed);
        if (plain == null) {
            x.refused++;
        } else {
            x.transportNs[way]++;
        }
        return give(plain);
    }

    boolean rekey(int s, boolean sending) {
        Session x = session(s);
        if (x == null || x.step < 3) {
            return false;
        }
        int way = x.way(sending);
        x.transportKeys[way] = Arrays.copyOf(Reference.seal(x.transportKeys[way], -1, NOTHING, new byte[32]), 32);
        return true;
    }

    int state(int s, int what) {
        Session x = session(s);
        if (x == null || what < 0 || what > 5) {
            return -1;
        }
        long[] all = {x.step, x.initiator ? 1 : 0, x.otherStatic != null ? 1 : 0,
            x.transportNs[x.way(true)], x.transportNs[x.way(false)], x.refused};
        return (int) all[what];
    }

    int told(int s, int which, int k) {
        Session x = session(s);
        if (x == null || which < 0 || which > 2 || k < 0 || k > 31) {
            return -1;
        }
        byte[][] all = {x.h, x.otherStatic, x.otherEphemeral};
        return all[which] == null ? -1 : all[which][k] & 0xff;
    }

    int out(int k) {
        return k >= 0 && k < out.length ? out[k] & 0xff : -1;
    }

    int count(int what) {
        return what == 0 ? tape.length : what == 1 ? out.length : -1;
    }
}
