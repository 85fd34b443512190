/** Promises 12 to 14, 18 and 19: start, write, read, state and told. */
public final class HandshakeTest {
    private static final Check CHECK = new Check("HandshakeTest");
    private static final int[] NO_SESSIONS = {-1, 4, Integer.MIN_VALUE, Integer.MAX_VALUE};

    public static void main(String[] args) {
        vector();
        startEdges();
        startCopiesKeys();
        startAnew();
        prologueMatters();
        fourSessions();
        writeEdges();
        writeOutOfTurn();
        readEdges();
        readOutOfTurn();
        readTooShort();
        readTampered();
        zeroSecrets();
        longestPayloads();
        stateEdges();
        toldByStep();
        CHECK.end();
    }

    /** The vector with which libraries of the framework test Noise_XX_25519_ChaChaPoly_SHA256. */
    private static void vector() {
        NoiseEngine x = Pair.withKeys();
        String prologue = "4a6f686e2047616c74";
        Check.feedHex(x, prologue);
        CHECK.due("start(0, ..)", x.start(0, true, 0, 1, 9), true);
        Check.feedHex(x, prologue);
        CHECK.due("start(1, ..)", x.start(1, false, 2, 3, 9), true);
        exchange(x, 0, "4c756477696720766f6e204d69736573",
                "ca35def5ae56cec33dc2036731ab14896bc4c75dbb07a61f879f8e3afa4c7944"
                + "4c756477696720766f6e204d69736573");
        exchange(x, 1, "4d757272617920526f746862617264",
                "95ebc60d2b1fa672c1f46a8aa265ef51bfe38e7ccb39ec5be34069f144808843"
                + "81cbad1f276e038c48378ffce2b65285e08d6b68aaa3629a5a8639392490e5b9"
                + "bd5269c2f1e4f488ed8831161f19b7815528f8982ffe09be9b5c412f8a0db50f"
                + "8814c7194e83f23dbd8d162c9326ad");
        exchange(x, 0, "462e20412e20486179656b",
                "c7195ffacac1307ff99046f219750fc47693e23c3cb08b89c2af808b444850a8"
                + "0ae475b9df0f169ae80a89be0865b57f58c9fea0d4ec82a286427402f113e4b6"
                + "ae769a1d95941d49b25030");
        String hash = "c8e5f64e846193be2a834104c2a009868d6c9f3bd3c186299888b488b2f1f58e";
        CHECK.due("the initiator's handshake hash", Check.toldHex(x, 0, 0), hash);
        CHECK.due("the responder's handshake hash", Check.toldHex(x, 1, 0), hash);
    }

    private static void exchange(NoiseEngine x, int writer, String payload, String message) {
        Check.feedHex(x, payload);
        int n = payload.length() / 2;
        CHECK.due("write(" + writer + ", " + n + ")", x.write(writer, n), message.length() / 2);
        CHECK.due("the message", Check.outHex(x), message);
        CHECK.due("write empties the tape", x.count(0), 0);
        int size = x.turn();
        x.feed(1, 2, 3, 4, 5);
        CHECK.due("read(" + (1 - writer) + ", " + size + ")", x.read(1 - writer, size), n);
        CHECK.due("the payload", Check.outHex(x), payload);
        CHECK.due("read empties the tape", x.count(0), 0);
    }

    private static void startEdges() {
        NoiseEngine x = new NoiseEngine();
        x.feed(1, 2, 3, 4, 5);
        for (int wrong : NO_SESSIONS) {
            CHECK.due("start(" + wrong + ", ..)", x.start(wrong, true, 0, 1, 0), false);
        }
        for (int wrong : new int[] {-1, 8, Integer.MIN_VALUE, Integer.MAX_VALUE}) {
            CHECK.due("start(.., fixed " + wrong + ", ..)", x.start(0, true, wrong, 1, 0), false);
            CHECK.due("start(.., passing " + wrong + ", ..)", x.start(0, true, 0, wrong, 0), false);
        }
        for (int wrong : new int[] {-1, 21, Integer.MIN_VALUE, Integer.MAX_VALUE}) {
            CHECK.due("start(.., n " + wrong + ")", x.start(0, true, 0, 1, wrong), false);
        }
        CHECK.due("false does nothing: the tape", x.count(0), 20);
        CHECK.due("false does nothing: the session", x.state(0, 0), -1);
        CHECK.due("start(3, false, 7, 7, 5)", x.start(3, false, 7, 7, 5), true);
        CHECK.due("start empties the tape", x.count(0), 0);
        CHECK.due("start leaves OUT", x.count(1), 0);
        CHECK.due("state(3, 0)", x.state(3, 0), 0);
        CHECK.due("state(3, 1)", x.state(3, 1), 0);
        for (int s = 0; s < 3; s++) {
            CHECK.due("the others have not begun", x.state(s, 0), -1);
        }
        x.feed(1, 2, 3, 4, 5);
        CHECK.due("start(3, .., -1) over one that was", x.start(3, true, 0, 1, -1), false);
        CHECK.due("false does nothing: the one that was", x.state(3, 1), 0);
        CHECK.due("start(0, .., 20) of 20", x.start(0, true, 0, 0, 20), true);
        x.feed(1, 2, 3, 4, 5);
        CHECK.due("start(1, .., 0) of 20", x.start(1, true, 0, 0, 0), true);
        CHECK.due("start with n 0 empties the tape", x.count(0), 0);
    }

    private static void startCopiesKeys() {
        NoiseEngine x = Pair.withKeys();
        Check.clear(x);
        x.start(0, true, 0, 1, 0);
        x.start(1, false, 2, 3, 0);
        for (int k = 0; k < 4; k++) {
            Check.setKey(x, k, "55".repeat(32));
        }
        Check.clear(x);
        x.write(0, 0);
        CHECK.due("e as the KEY was", Check.outHex(x, 0, 32), Pair.publicHex(Pair.INITIATOR_EPHEMERAL));
        x.read(1, x.turn());
        x.write(1, 0);
        x.read(0, x.turn());
        x.write(0, 0);
        x.read(1, x.turn());
        CHECK.due("s of the responder as the KEY was", Check.toldHex(x, 0, 1), Pair.publicHex(Pair.RESPONDER_STATIC));
        CHECK.due("s of the initiator as the KEY was", Check.toldHex(x, 1, 1), Pair.publicHex(Pair.INITIATOR_STATIC));
    }

    private static void startAnew() {
        NoiseEngine x = Pair.atStep(3);
        x.send(0, 0);
        x.turn();
        x.receive(1, 15);
        CHECK.due("refused before", x.state(1, 5), 1);
        CHECK.due("sent before", x.state(0, 3), 1);
        x.start(0, false, 2, 3, 0);
        x.start(1, true, 0, 1, 0);
        int[] responder = {0, 0, 0, 0, 0, 0};
        int[] initiator = {0, 1, 0, 0, 0, 0};
        for (int what = 0; what < 6; what++) {
            CHECK.due("state(0, " + what + ") begun anew", x.state(0, what), responder[what]);
            CHECK.due("state(1, " + what + ") begun anew", x.state(1, what), initiator[what]);
        }
        for (int which = 1; which < 3; which++) {
            CHECK.due("told(0, " + which + ", 0) begun anew", x.told(0, which, 0), -1);
            CHECK.due("told(1, " + which + ", 0) begun anew", x.told(1, which, 0), -1);
        }
        CHECK.due("send of one begun anew", x.send(0, 0), -1);
        CHECK.due("write(1) begun anew", x.write(1, 0), 32);
        CHECK.due("read(0) begun anew", x.read(0, x.turn()), 0);
        CHECK.due("write(0) begun anew", x.write(0, 0), 96);
        CHECK.due("read(1) begun anew", x.read(1, x.turn()), 0);
    }

    private static void prologueMatters() {
        NoiseEngine x = Pair.withKeys();
        Check.clear(x);
        x.feed(1, 2, 3, 4, 5);
        x.start(0, true, 0, 1, 3);
        x.feed(1, 2, 3, 4, 5);
        x.start(1, false, 2, 3, 4);
        byte[] name = Check.bytes(Check.asciiHex("Noise_XX_25519_ChaChaPoly_SHA256"));
        CHECK.due("the hash behind a prologue", Check.toldHex(x, 0, 0),
                Check.hex(Reference.sha256(Reference.join(name, new byte[] {0, 0, 0}))));
        CHECK.due("the hash behind a prologue", Check.toldHex(x, 1, 0),
                Check.hex(Reference.sha256(Reference.join(name, new byte[] {0, 0, 0, 1}))));
        x.write(0, 0);
        x.read(1, x.turn());
        CHECK.due("another prologue: write", x.write(1, 0), 96);
        CHECK.due("another prologue: read", x.read(0, x.turn()), -1);
        CHECK.due("another prologue: refused", x.state(0, 5), 1);
    }

    /** Two handshakes side by side, step by step, do not touch each other. */
    private static void fourSessions() {
        NoiseEngine x = Pair.withKeys();
        Check.clear(x);
        x.start(3, true, 0, 1, 0);
        x.start(2, false, 2, 3, 0);
        x.start(1, true, 2, 1, 0);
        x.start(0, false, 0, 3, 0);
        int[][] turns = {{3, 2}, {1, 0}, {2, 3}, {0, 1}, {3, 2}, {1, 0}};
        for (int[] turn : turns) {
            CHECK.due("write(" + turn[0] + ")", x.write(turn[0], 0) > 0, true);
            CHECK.due("read(" + turn[1] + ")", x.read(turn[1], x.turn()), 0);
        }
        CHECK.due("both ends of the one", Check.toldHex(x, 2, 0), Check.toldHex(x, 3, 0));
        CHECK.due("both ends of the other", Check.toldHex(x, 0, 0), Check.toldHex(x, 1, 0));
        CHECK.due("the two differ", Check.toldHex(x, 0, 0).equals(Check.toldHex(x, 2, 0)), false);
        CHECK.due("session 0 knows", Check.toldHex(x, 0, 1), Pair.publicHex(Pair.RESPONDER_STATIC));
        CHECK.due("session 2 knows", Check.toldHex(x, 2, 1), Pair.publicHex(Pair.INITIATOR_STATIC));
    }

    private static void writeEdges() {
        NoiseEngine x = Pair.atStep(0);
        Check.clear(x);
        for (int i = 0; i < 50; i++) {
            x.feed(i, i, i, i, i);
        }
        for (int s : NO_SESSIONS) {
            CHECK.due("write(" + s + ", 0)", x.write(s, 0), -2);
        }
        CHECK.due("write of one not begun", x.write(2, 0), -2);
        for (int n : new int[] {-1, 901, 1000, 1001, Integer.MIN_VALUE, Integer.MAX_VALUE}) {
            CHECK.due("write(0, " + n + ")", x.write(0, n), -2);
            CHECK.due("write(1, " + n + "), not its turn either", x.write(1, n), -2);
        }
        CHECK.due("-2 leaves the tape", x.count(0), 1000);
        CHECK.due("-2 leaves OUT", x.count(1), 32);
        CHECK.due("-2 leaves the session", x.state(0, 0), 0);
        CHECK.due("write(0, 900)", x.write(0, 900), 932);
        CHECK.due("write empties the tape", x.count(0), 0);
        CHECK.due("write(1, 1) of nothing", x.write(1, 1), -2);
    }

    private static void writeOutOfTurn() {
        for (int step = 0; step <= 3; step++) {
            NoiseEngine x = Pair.atStep(step);
            for (int s = 0; s < 2; s++) {
                if (step < 3 && s == step % 2) {
                    continue;
                }
                Check.clear(x);
                String before = Check.outHex(x);
                String hash = Check.toldHex(x, s, 0);
                x.feed(1, 2, 3, 4, 5);
                CHECK.due("write(" + s + ", 7) at STEP " + step, x.write(s, 7), -1);
                CHECK.due("NONE empties the tape", x.count(0), 0);
                CHECK.due("NONE leaves OUT", Check.outHex(x), before);
                CHECK.due("NONE leaves the STEP", x.state(s, 0), step);
                CHECK.due("NONE leaves the hash", Check.toldHex(x, s, 0), hash);
                CHECK.due("write() refuses no message", x.state(s, 5), 0);
            }
        }
    }

    private static void readEdges() {
        NoiseEngine x = Pair.atStep(0);
        Check.clear(x);
        x.feed(1, 2, 3, 4, 5);
        x.feed(1, 2, 3, 4, 5);
        for (int s : NO_SESSIONS) {
            CHECK.due("read(" + s + ", 32)", x.read(s, 32), -2);
        }
        CHECK.due("read of one not begun", x.read(3, 32), -2);
        for (int n : new int[] {-1, 41, Integer.MIN_VALUE, Integer.MAX_VALUE}) {
            CHECK.due("read(1, " + n + ")", x.read(1, n), -2);
            CHECK.due("read(0, " + n + "), not its turn either", x.read(0, n), -2);
        }
        CHECK.due("-2 leaves the tape", x.count(0), 40);
        CHECK.due("-2 leaves OUT", x.count(1), 32);
        CHECK.due("-2 is no refused message", x.state(1, 5), 0);
        CHECK.due("read(1, 40)", x.read(1, 40), 8);
        CHECK.due("the payload of message 0 is not sealed", Check.outHex(x), "0000000400000005");

        NoiseEngine y = Pair.atStep(0);
        Check.clear(y);
        for (int i = 0; i < 50; i++) {
            y.feed(i, i, i, i, i);
        }
        CHECK.due("read(1, 1000): more than write() takes", y.read(1, 1000), 968);
        CHECK.due("read(1, 1000): STEP", y.state(1, 0), 1);
    }

    private static void readOutOfTurn() {
        for (int step = 0; step <= 3; step++) {
            NoiseEngine x = Pair.atStep(step);
            for (int s = 0; s < 2; s++) {
                if (step < 3 && s != step % 2) {
                    continue;
                }
                Check.clear(x);
                String before = Check.outHex(x);
                String hash = Check.toldHex(x, s, 0);
                x.feed(1, 2, 3, 4, 5);
                x.feed(1, 2, 3, 4, 5);
                CHECK.due("read(" + s + ", 32) at STEP " + step, x.read(s, 32), -1);
                CHECK.due("NONE empties the tape", x.count(0), 0);
                CHECK.due("NONE leaves OUT", Check.outHex(x), before);
                CHECK.due("NONE leaves the STEP", x.state(s, 0), step);
                CHECK.due("NONE leaves the hash", Check.toldHex(x, s, 0), hash);
                CHECK.due("out of turn is no refused message", x.state(s, 5), 0);
            }
        }
    }

    private static void readTooShort() {
        int[] shortest = {32, 96, 64};
        for (int step = 0; step < 3; step++) {
            NoiseEngine x = Pair.atStep(step);
            int reader = 1 - step % 2;
            Check.clear(x);
            x.write(1 - reader, 0);
            int refused = 0;
            for (int n : new int[] {0, 1, 15, 16, 31, 32, 47, 48, 63, 64, 79, 80, 95}) {
                if (n < shortest[step]) {
                    x.turn();
                    CHECK.due("read(" + reader + ", " + n + ") at STEP " + step, x.read(reader, n), -1);
                    refused++;
                    CHECK.due("too short: the tape is empty", x.count(0), 0);
                    CHECK.due("too short: refused", x.state(reader, 5), refused);
                    CHECK.due("too short: STEP", x.state(reader, 0), step);
                }
            }
            CHECK.due("too short: OUT stays", x.count(1), shortest[step]);
            x.turn();
            CHECK.due("read whole at STEP " + step, x.read(reader, shortest[step]), 0);
            CHECK.due("read whole: STEP", x.state(reader, 0), step + 1);
        }
    }

    /** A changed byte is refused wherever it is sealed, and the session goes on with the true message. */
    private static void readTampered() {
        for (int step = 1; step < 3; step++) {
            int size = step == 1 ? 99 : 67;
            for (int k = 0; k < size; k += 3) {
                NoiseEngine x = Pair.atStep(step);
                int reader = 1 - step % 2;
                x.feed(-1, -1, -1, -1, -1);
                x.write(1 - reader, 3);
                String message = Check.outHex(x);
                String hash = Check.toldHex(x, reader, 0);
                int knewStatic = x.told(reader, 1, 0);
                int knewEphemeral = x.told(reader, 2, 0);
                x.turn();
                x.patch(k, ~x.out(k));
                String call = "read at STEP " + step + " with byte " + k + " changed";
                CHECK.due(call, x.read(reader, size), -1);
                CHECK.due(call + ": the tape is empty", x.count(0), 0);
                CHECK.due(call + ": OUT", Check.outHex(x), message);
                CHECK.due(call + ": STEP", x.state(reader, 0), step);
                CHECK.due(call + ": static key", x.state(reader, 2), 0);
                CHECK.due(call + ": refused", x.state(reader, 5), 1);
                CHECK.due(call + ": hash", Check.toldHex(x, reader, 0), hash);
                CHECK.due(call + ": told 1", x.told(reader, 1, 0), knewStatic);
                CHECK.due(call + ": told 2", x.told(reader, 2, 0), knewEphemeral);
                x.turn();
                CHECK.due("the true message then", x.read(reader, size), 3);
                CHECK.due("the true message then: payload", Check.outHex(x), "ffffff");
                CHECK.due("the true message then: refused", x.state(reader, 5), 1);
                CHECK.due("the true message then: hash", Check.toldHex(x, 0, 0), Check.toldHex(x, 1, 0));
            }
        }
    }

    /** Nothing is asked of a shared secret: an ephemeral key of 0 is taken. */
    private static void zeroSecrets() {
        NoiseEngine x = Pair.atStep(0);
        Check.clear(x);
        x.feed(0, 0, 0, 0, 0);
        x.feed(0, 0, 0, 0, 0);
        CHECK.due("read of an e of 0", x.read(1, 32), 0);
        CHECK.due("write to an e of 0", x.write(1, 0), 96);
        CHECK.due("told of an e of 0", Check.toldHex(x, 1, 2), "00".repeat(32));
    }

    private static void longestPayloads() {
        NoiseEngine x = Pair.atStep(0);
        int[] sizes = {932, 996, 964};
        for (int step = 0; step < 3; step++) {
            Check.clear(x);
            for (int i = 0; i < 45; i++) {
                x.feed(i, step, i, step, i);
            }
            CHECK.due("write of 900 at STEP " + step, x.write(step % 2, 900), sizes[step]);
            CHECK.due("turn of it", x.turn(), sizes[step]);
            CHECK.due("read of it", x.read(1 - step % 2, sizes[step]), 900);
            CHECK.due("the last bytes of it", Check.outHex(x, 892, 900), "0000000" + step + "0000002c");
        }
        CHECK.due("over", x.state(0, 0) + x.state(1, 0), 6);
    }

    private static void stateEdges() {
        NoiseEngine x = Pair.atStep(3);
        for (int s : NO_SESSIONS) {
            CHECK.due("state(" + s + ", 0)", x.state(s, 0), -1);
        }
        for (int what : new int[] {-1, 6, Integer.MIN_VALUE, Integer.MAX_VALUE}) {
            CHECK.due("state(0, " + what + ")", x.state(0, what), -1);
        }
        int[] initiatorKnows = {0, 0, 1, 1};
        int[] responderKnows = {0, 0, 0, 1};
        for (int step = 0; step <= 3; step++) {
            NoiseEngine y = Pair.atStep(step);
            for (int s = 0; s < 2; s++) {
                CHECK.due("state(" + s + ", 0)", y.state(s, 0), step);
                CHECK.due("state(" + s + ", 1)", y.state(s, 1), 1 - s);
                CHECK.due("state(" + s + ", 2) at STEP " + step, y.state(s, 2),
                        s == 0 ? initiatorKnows[step] : responderKnows[step]);
                CHECK.due("state(" + s + ", 3) at STEP " + step, y.state(s, 3), 0);
                CHECK.due("state(" + s + ", 4) at STEP " + step, y.state(s, 4), 0);
                CHECK.due("state(" + s + ", 5) at STEP " + step, y.state(s, 5), 0);
            }
        }
        // A writer is a message ahead of the reader.
        NoiseEngine z = Pair.atStep(2);
        z.write(0, 0);
        CHECK.due("the writer is over", z.state(0, 0), 3);
        CHECK.due("the reader is not yet", z.state(1, 0), 2);
        CHECK.due("nor does it know", z.state(1, 2), 0);
    }

    private static void toldByStep() {
        String[] statics = {Pair.publicHex(Pair.RESPONDER_STATIC), Pair.publicHex(Pair.INITIATOR_STATIC)};
        String[] ephemerals = {Pair.publicHex(Pair.RESPONDER_EPHEMERAL), Pair.publicHex(Pair.INITIATOR_EPHEMERAL)};
        String unknown = "?".repeat(32);
        int[] staticFrom = {2, 3};
        int[] ephemeralFrom = {2, 1};
        for (int step = 0; step <= 3; step++) {
            NoiseEngine x = Pair.atStep(step);
            for (int s = 0; s < 2; s++) {
                CHECK.due("told(" + s + ", 1, ..) at STEP " + step, Check.toldHex(x, s, 1),
                        step < staticFrom[s] ? unknown : statics[s]);
                CHECK.due("told(" + s + ", 2, ..) at STEP " + step, Check.toldHex(x, s, 2),
                        step < ephemeralFrom[s] ? unknown : ephemerals[s]);
            }
            CHECK.due("both hashes at STEP " + step, Check.toldHex(x, 0, 0), Check.toldHex(x, 1, 0));
        }
        NoiseEngine x = Pair.atStep(3);
        for (int s : NO_SESSIONS) {
            CHECK.due("told(" + s + ", 0, 0)", x.told(s, 0, 0), -1);
        }
        CHECK.due("told of one not begun", x.told(2, 0, 0), -1);
        for (int wrong : new int[] {-1, 32, Integer.MIN_VALUE, Integer.MAX_VALUE}) {
            for (int which = 0; which < 3; which++) {
                CHECK.due("told(0, " + which + ", " + wrong + ")", x.told(0, which, wrong), -1);
            }
        }
        for (int wrong : new int[] {-1, 3, Integer.MIN_VALUE, Integer.MAX_VALUE}) {
            CHECK.due("told(0, " + wrong + ", 0)", x.told(0, wrong, 0), -1);
        }
    }
}
