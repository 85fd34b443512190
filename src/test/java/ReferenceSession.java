/** A session once more, in the plainest way and upon the Java library; it sets no bound to a payload. */
final class ReferenceSession {
    private static final byte[] NAME = Check.bytes(Check.asciiHex("Noise_XX_25519_ChaChaPoly_SHA256"));
    private static final byte[] NOTHING = {};

    private final boolean initiator;
    private final byte[] ownStatic;
    private final byte[] ownEphemeral;
    private byte[] otherStatic;
    private byte[] otherEphemeral;
    private byte[] h = NAME;
    private byte[] ck = NAME;
    private byte[] k;
    private long n;
    private int step;
    private int refused;
    private byte[][] transportKeys;
    private final long[] transportNs = {0, 0};

    ReferenceSession(boolean initiator, byte[] ownStatic, byte[] ownEphemeral, byte[] prologue) {
        this.initiator = initiator;
        this.ownStatic = ownStatic.clone();
        this.ownEphemeral = ownEphemeral.clone();
        mixHash(prologue);
    }

    boolean isOver() {
        return step == 3;
    }

    boolean writesNext() {
        return step == 0 && initiator || step == 1 && !initiator || step == 2 && initiator;
    }

    boolean readsNext() {
        return step == 0 && !initiator || step == 1 && initiator || step == 2 && !initiator;
    }

    byte[] write(byte[] payload) {
        byte[] message = NOTHING;
        switch (step) {
            case 0:
                message = writeE();
                break;
            case 1:
                message = writeE();
                mixKey(ownEphemeral, otherEphemeral);
                message = Reference.join(message, encryptAndHash(Reference.publicKey(ownStatic)));
                mixKey(ownStatic, otherEphemeral);
                break;
            default:
                message = encryptAndHash(Reference.publicKey(ownStatic));
                mixKey(ownStatic, otherEphemeral);
        }
        message = Reference.join(message, encryptAndHash(payload));
        messageDone();
        return message;
    }

    private byte[] writeE() {
        byte[] e = Reference.publicKey(ownEphemeral);
        mixHash(e);
        return e;
    }

    /** null: refused. Rows are never changed in place, so that keeping them is the way back. */
    byte[] read(byte[] message) {
        byte[][] rows = {h, ck, k, otherStatic, otherEphemeral};
        long oldN = n;
        byte[] payload = readParts(message);
        if (payload == null) {
            h = rows[0];
            ck = rows[1];
            k = rows[2];
            otherStatic = rows[3];
            otherEphemeral = rows[4];
            n = oldN;
            refused++;
            return null;
        }
        messageDone();
        return payload;
    }

    private byte[] readParts(byte[] message) {
        byte[] rest = message;
        if (step < 2) {
            if (rest.length < 32) {
                return null;
            }
            otherEphemeral = Reference.part(rest, 0, 32);
            mixHash(otherEphemeral);
            rest = Reference.part(rest, 32, rest.length - 32);
        }
        if (step == 1) {
            mixKey(ownEphemeral, otherEphemeral);
        }
        if (step > 0) {
            if (rest.length < 48) {
                return null;
            }
            otherStatic = decryptAndHash(Reference.part(rest, 0, 48));
            if (otherStatic == null) {
                return null;
            }
            mixKey(ownEphemeral, otherStatic);
            rest = Reference.part(rest, 48, rest.length - 48);
        }
        return decryptAndHash(rest);
    }

    byte[] send(byte[] plain) {
        int way = way(true);
        return Reference.seal(transportKeys[way], transportNs[way]++, NOTHING, plain);
    }

    /** null: refused. */
    byte[] receive(byte[] sealed) {
        int way = way(false);
        byte[] plain = Reference.open(transportKeys[way], transportNs[way], NOTHING, sealed);
        if (plain == null) {
            refused++;
        } else {
            transportNs[way]++;
        }
        return plain;
    }

    void rekey(boolean sending) {
        int way = way(sending);
        byte[] sealed = Reference.seal(transportKeys[way], -1, NOTHING, new byte[32]);
        transportKeys[way] = Reference.part(sealed, 0, 32);
    }

    /** what is 0 to 5, as state() has it. */
    int figure(int what) {
        long[] all = {step, initiator ? 1 : 0, otherStatic != null ? 1 : 0,
            transportNs[way(true)], transportNs[way(false)], refused};
        return (int) all[what];
    }

    /** which is 0 to 2, as told() has it; null: not known. */
    byte[] known(int which) {
        byte[][] all = {h, otherStatic, otherEphemeral};
        return all[which];
    }

    private int way(boolean sending) {
        return sending == initiator ? 0 : 1;
    }

    private void mixHash(byte[] data) {
        h = Reference.sha256(Reference.join(h, data));
    }

    private void mixKey(byte[] secret, byte[] point) {
        byte[][] both = Reference.hkdf(ck, Reference.x25519(secret, point));
        ck = both[0];
        k = both[1];
        n = 0;
    }

    private byte[] encryptAndHash(byte[] plain) {
        byte[] sealed = k == null ? plain : Reference.seal(k, n++, h, plain);
        mixHash(sealed);
        return sealed;
    }

    private byte[] decryptAndHash(byte[] sealed) {
        byte[] plain = k == null ? sealed : Reference.open(k, n++, h, sealed);
        mixHash(sealed);
        return plain;
    }

    private void messageDone() {
        step++;
        if (step == 3) {
            transportKeys = Reference.hkdf(ck, NOTHING);
        }
    }
}
