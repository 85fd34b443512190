import java.util.Arrays;

/** The document's promises once more, in the plainest way and upon the Java library. */
final class ReferenceEngine {
    private static final byte[] NOTHING = {};

    private byte[] tape = NOTHING;
    private byte[] out = NOTHING;
    private final byte[][] keys = new byte[8][32];
    private final ReferenceSession[] sessions = new ReferenceSession[4];

    private boolean isKey(int k) {
        return 0 <= k && k <= 7;
    }

    private ReferenceSession session(int s) {
        return 0 <= s && s <= 3 ? sessions[s] : null;
    }

    private boolean has(long n) {
        return n >= 0 && n <= tape.length;
    }

    private byte[] pull(int n) {
        byte[] pulled = Arrays.copyOf(tape, n);
        tape = NOTHING;
        return pulled;
    }

    private int give(byte[] bytes) {
        if (bytes == null) {
            return -1;
        }
        out = bytes;
        return bytes.length;
    }

    int feed(int[] numbers) {
        if (tape.length + 20 > 1000) {
            return -1;
        }
        byte[] bytes = new byte[20];
        for (int i = 0; i < 20; i++) {
            bytes[i] = (byte) (numbers[i / 4] >>> 24 - 8 * (i % 4));
        }
        tape = Reference.join(tape, bytes);
        return tape.length;
    }

    int turn() {
        tape = out.clone();
        return tape.length;
    }

    boolean patch(int k, int v) {
        if (k < 0 || k >= tape.length) {
            return false;
        }
        tape[k] = (byte) v;
        return true;
    }

    boolean key(int k) {
        if (!isKey(k) || !has(32)) {
            return false;
        }
        keys[k] = pull(32);
        return true;
    }

    boolean take(int k) {
        if (!isKey(k) || out.length < 32) {
            return false;
        }
        keys[k] = Arrays.copyOf(out, 32);
        return true;
    }

    int curve(int k, boolean own) {
        if (!isKey(k) || !own && !has(32)) {
            return -2;
        }
        return give(own ? Reference.publicKey(keys[k]) : Reference.x25519(keys[k], pull(32)));
    }

    int hash(int n) {
        return has(n) ? give(Reference.sha256(pull(n))) : -2;
    }

    int mac(int k, int n) {
        return isKey(k) && has(n) ? give(Reference.hmac(keys[k], pull(n))) : -2;
    }

    int seal(int k, long n, int a, int b) {
        if (!isKey(k) || a < 0 || b < 0 || b > 984 || !has((long) a + b)) {
            return -2;
        }
        byte[] both = pull(a + b);
        return give(Reference.seal(keys[k], n, Reference.part(both, 0, a), Reference.part(both, a, b)));
    }

    int open(int k, long n, int a, int b) {
        if (!isKey(k) || a < 0 || b < 0 || !has((long) a + b)) {
            return -2;
        }
        byte[] both = pull(a + b);
        return give(Reference.open(keys[k], n, Reference.part(both, 0, a), Reference.part(both, a, b)));
    }

    boolean start(int s, boolean initiator, int fixed, int passing, int n) {
        if (s < 0 || s > 3 || !isKey(fixed) || !isKey(passing) || !has(n)) {
            return false;
        }
        sessions[s] = new ReferenceSession(initiator, keys[fixed], keys[passing], pull(n));
        return true;
    }

    int write(int s, int n) {
        ReferenceSession x = session(s);
        if (x == null || n > 900 || !has(n)) {
            return -2;
        }
        byte[] payload = pull(n);
        return x.writesNext() ? give(x.write(payload)) : -1;
    }

    int read(int s, int n) {
        ReferenceSession x = session(s);
        if (x == null || !has(n)) {
            return -2;
        }
        byte[] message = pull(n);
        return x.readsNext() ? give(x.read(message)) : -1;
    }

    int send(int s, int n) {
        ReferenceSession x = session(s);
        if (x == null || n > 900 || !has(n)) {
            return -2;
        }
        byte[] plain = pull(n);
        return x.isOver() ? give(x.send(plain)) : -1;
    }

    int receive(int s, int n) {
        ReferenceSession x = session(s);
        if (x == null || !has(n)) {
            return -2;
        }
        byte[] sealed = pull(n);
        return x.isOver() ? give(x.receive(sealed)) : -1;
    }

    boolean rekey(int s, boolean sending) {
        ReferenceSession x = session(s);
        if (x == null || !x.isOver()) {
            return false;
        }
        x.rekey(sending);
        return true;
    }

    int state(int s, int what) {
        ReferenceSession x = session(s);
        return x == null || what < 0 || what > 5 ? -1 : x.figure(what);
    }

    int told(int s, int which, int k) {
        ReferenceSession x = session(s);
        if (x == null || which < 0 || which > 2 || k < 0 || k > 31 || x.known(which) == null) {
            return -1;
        }
        return x.known(which)[k] & 0xff;
    }

    int out(int k) {
        return k >= 0 && k < out.length ? out[k] & 0xff : -1;
    }

    int count(int what) {
        return what == 0 ? tape.length : what == 1 ? out.length : -1;
    }
}
