/** Two sessions of one engine that speak with each other: an initiator and a responder. */
final class Pair {
    static final String INITIATOR_STATIC = "e61ef9919cde45dd5f82166404bd08e38bceb5dfdfded0a34c8df7ed542214d1";
    static final String INITIATOR_EPHEMERAL = "893e28b9dc6ca8d611ab664754b8ceb7bac5117349a4439a6b0569da977c464a";
    static final String RESPONDER_STATIC = "4a3acbfdb163dec651dfa3194dece676d437029c62a408b4c5ea9114246e4893";
    static final String RESPONDER_EPHEMERAL = "bbdb4cdbd309f1a1f2e1456967fe288cadd6f712d65dc7b7793d5e63da6b375b";

    private Pair() {
    }

    /** An engine whose KEYS 0 and 1 are the initiator's (static, ephemeral), 2 and 3 the responder's. */
    static NoiseEngine withKeys() {
        NoiseEngine x = new NoiseEngine();
        Check.setKey(x, 0, INITIATOR_STATIC);
        Check.setKey(x, 1, INITIATOR_EPHEMERAL);
        Check.setKey(x, 2, RESPONDER_STATIC);
        Check.setKey(x, 3, RESPONDER_EPHEMERAL);
        return x;
    }

    /** Session 0 is an initiator and 1 a responder, with the same prologue; so many messages are done. */
    static NoiseEngine atStep(int step) {
        NoiseEngine x = withKeys();
        Check.clear(x);
        x.start(0, true, 0, 1, 0);
        x.start(1, false, 2, 3, 0);
        for (int i = 0; i < step; i++) {
            x.write(i % 2, 0);
            x.read(1 - i % 2, x.turn());
        }
        return x;
    }

    /** The same two sessions by other means, at the same step. */
    static ReferenceSession[] references(int step) {
        ReferenceSession[] both = {
            new ReferenceSession(true, Check.bytes(INITIATOR_STATIC), Check.bytes(INITIATOR_EPHEMERAL), new byte[0]),
            new ReferenceSession(false, Check.bytes(RESPONDER_STATIC), Check.bytes(RESPONDER_EPHEMERAL), new byte[0]),
        };
        for (int i = 0; i < step; i++) {
            both[1 - i % 2].read(both[i % 2].write(new byte[0]));
        }
        return both;
    }

    static String publicHex(String secret) {
        return Check.hex(Reference.publicKey(Check.bytes(secret)));
    }
}
