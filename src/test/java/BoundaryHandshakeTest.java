import java.util.function.Supplier;

/** The boundary sentences of promises 12 to 14, 18 and 19: start, write, read, state, told. */
public final class BoundaryHandshakeTest {
    private static final Boundary TEST = new Boundary("BoundaryHandshakeTest");
    private static final int MIN = Integer.MIN_VALUE;
    private static final int MAX = Integer.MAX_VALUE;
    private static final int[] NO_SESSIONS = {-1, 4, MIN, MAX};
    private static final int[] NO_KEYS = {-1, 8, MIN, MAX};
    private static final int FULL = Sizes.FULL;
    private static final byte[] NOTHING = {};
    private static final byte[] NAME = Check.bytes(Check.asciiHex("Noise_XX_25519_ChaChaPoly_SHA256"));
    /** The bytes of each message beside its payload. */
    private static final int[] BESIDE_PAYLOAD = {32, 96, 64};

    public static void main(String[] args) {
        start();
        write();
        read();
        state();
        told();
        TEST.end();
    }

    /** Sessions 0 (initiator) and 1 (responder) have done so many messages; the tape has so many bytes. */
    private static Supplier<NoiseEngine> pairAt(int step, int size) {
        return () -> Sizes.tape(Pair.atStep(step), size);
    }

    private static void start() {
        TEST.sentence("Promise 12 (start)", "Session s begins", BoundaryHandshakeTest::startEnds);
        TEST.sentence("Promise 12 (start)", "in place of one that was", BoundaryHandshakeTest::startInPlace);
        TEST.sentence("Promise 12 (start)", "with n bytes of the tape as prologue: true",
                BoundaryHandshakeTest::startPrologues);
        TEST.sentence("Promise 12 (start)", "False, doing nothing: no such session",
                BoundaryHandshakeTest::startNoSession);
        TEST.sentence("Promise 12 (start)", "KEYS", BoundaryHandshakeTest::startNoKeys);
        TEST.sentence("Promise 12 (start)", "n as in hash()", BoundaryHandshakeTest::startOutOfBounds);
    }

    private static void startEnds() {
        for (int s = 0; s < 4; s++) {
            NoiseEngine x = Sizes.tape(new NoiseEngine(), 20);
            TEST.due("start(" + s + ", ..)", x.start(s, s % 2 == 0, 0, 7, 0), true);
            TEST.due("the tape then", x.count(0), 0);
            TEST.due("OUT then", x.count(1), 20);
            for (int t = 0; t < 4; t++) {
                TEST.due("state(" + t + ", 0) then", x.state(t, 0), t == s ? 0 : -1);
                TEST.due("state(" + t + ", 1) then", x.state(t, 1), t == s ? 1 - s % 2 : -1);
            }
        }
        NoiseEngine x = Pair.withKeys();
        TEST.due("start(3, true, 7, 0, 0)", x.start(3, true, 7, 0, 0), true);
        x.write(3, 0);
        TEST.dueOut("its e is KEY 0's", x, Reference.publicKey(Check.bytes(Pair.INITIATOR_STATIC)));
    }

    /** Nothing of the one that was is left, whatever its STEP, its roles turned round or not. */
    private static void startInPlace() {
        for (int step = 0; step <= 3; step++) {
            for (boolean turned : new boolean[] {false, true}) {
                Supplier<NoiseEngine> anew = anew(step, turned);
                Supplier<NoiseEngine> fresh = anew(-1, turned);
                String call = "start at STEP " + step + (turned ? ", turned round" : "");
                TEST.due(call, Sight.besidesTape(anew), Sight.besidesTape(fresh));
                TEST.due(call + ": refused", Sight.refusals(anew.get()), "0 0 -1 -1 ");
                NoiseEngine x = anew.get();
                TEST.due(call + ": send", x.send(0, 0), -1);
                TEST.due(call + ": receive", x.receive(1, 0), -1);
                TEST.due(call + ": rekey", x.rekey(0, true), false);
            }
        }
    }

    /** Both sessions begun, behind others that had come to that step, with a refused message each; -1: none were. */
    private static Supplier<NoiseEngine> anew(int step, boolean turned) {
        return () -> {
            NoiseEngine x = step < 0 ? Pair.withKeys() : Pair.atStep(step);
            Check.clear(x);
            for (int s = 0; s < 2; s++) {
                x.read(s, 0);
                x.receive(s, 0);
                x.rekey(s, true);
                x.send(s, 0);
            }
            x.start(0, !turned, 0, 1, 0);
            x.start(1, turned, 2, 3, 0);
            Check.clear(x);
            return x;
        };
    }

    private static void startPrologues() {
        byte[] all = Sizes.bytes(FULL);
        for (int n : new int[] {0, 1, 23, 24, 31, 32, 999, FULL}) {
            NoiseEngine x = Sizes.fed(new NoiseEngine(), all);
            TEST.due("start(.., " + n + ") of 1,000", x.start(0, true, 0, 0, n), true);
            TEST.due("the tape then", x.count(0), 0);
            TEST.due("the hash then", Check.toldHex(x, 0, 0),
                    Check.hex(Reference.sha256(Reference.join(NAME, Reference.part(all, 0, n)))));
        }
        TEST.due("start(.., 0) of 0", new NoiseEngine().start(0, true, 0, 0, 0), true);
    }

    private static void startNoSession() {
        for (int s : NO_SESSIONS) {
            TEST.isFalse("start(" + s + ", ..)", pairAt(2, 20), x -> x.start(s, true, 0, 1, 20));
            TEST.isFalse("start(" + s + ", ..) of 0", pairAt(2, 0), x -> x.start(s, false, 0, 1, 0));
        }
    }

    private static void startNoKeys() {
        for (int k : NO_KEYS) {
            for (int s : new int[] {0, 3}) {
                TEST.isFalse("start(" + s + ", .., fixed " + k + ", ..)", pairAt(2, 20),
                        x -> x.start(s, false, k, 1, 20));
                TEST.isFalse("start(" + s + ", .., passing " + k + ", ..)", pairAt(2, 20),
                        x -> x.start(s, false, 0, k, 20));
                TEST.isFalse("start(" + s + ", .., both " + k + ", ..)", pairAt(2, 20),
                        x -> x.start(s, false, k, k, 20));
            }
        }
    }

    /** One that was goes on; one that wasn't still is not. */
    private static void startOutOfBounds() {
        for (int size : new int[] {0, 20, FULL}) {
            for (int n : new int[] {-1, MIN, size + 1, MAX}) {
                TEST.isFalse("start(1, .., " + n + ") of " + size, pairAt(1, size), x -> x.start(1, true, 0, 1, n));
                TEST.isFalse("start(2, .., " + n + ") of " + size, pairAt(3, size), x -> x.start(2, true, 0, 1, n));
            }
        }
    }

    private static void write() {
        TEST.sentence("Promise 13 (write)", "OUT is the next message, with n bytes of the tape as payload: its bytes",
                BoundaryHandshakeTest::writeSizes);
        TEST.sentence("Promise 13 (write)", "NONE: it's not its to write", BoundaryHandshakeTest::writeNotIts);
        TEST.sentence("Promise 13 (write)", "or over", BoundaryHandshakeTest::writeOver);
        TEST.sentence("Promise 13 (write)", "-2, doing nothing: no such session (begun)",
                BoundaryHandshakeTest::writeNoSession);
        TEST.sentence("Promise 13 (write)", "n is below 0", BoundaryHandshakeTest::writeBelow0);
        TEST.sentence("Promise 13 (write)", "above 900", BoundaryHandshakeTest::writeAbove900);
        TEST.sentence("Promise 13 (write)", "or more than there are", BoundaryHandshakeTest::writeOfFewer);
    }

    private static void writeSizes() {
        byte[] all = Sizes.bytes(FULL);
        for (int step = 0; step < 3; step++) {
            int writer = step % 2;
            for (int n : new int[] {0, 1, 15, 16, 17, 63, 64, 899, 900}) {
                NoiseEngine x = Sizes.fed(Pair.atStep(step), all);
                ReferenceSession peer = Pair.references(step)[writer];
                byte[] due = peer.write(Reference.part(all, 0, n));
                String call = "write(" + writer + ", " + n + ") at STEP " + step;
                TEST.due(call, x.write(writer, n), BESIDE_PAYLOAD[step] + n);
                TEST.due(call + ": the tape", x.count(0), 0);
                TEST.due(call + ": STEP", x.state(writer, 0), step + 1);
                TEST.due(call + ": the hash", Check.toldHex(x, writer, 0), Check.hex(peer.known(0)));
                TEST.dueOut(call, x, due);
            }
        }
    }

    private static void writeNotIts() {
        for (int step = 0; step < 3; step++) {
            int reader = 1 - step % 2;
            for (int n : new int[] {0, 1, 20}) {
                TEST.takesTapeAlone("write(" + reader + ", " + n + ") at STEP " + step, pairAt(step, 20),
                        x -> x.write(reader, n));
            }
            TEST.takesTapeAlone("write(" + reader + ", 900) at STEP " + step, pairAt(step, FULL),
                    x -> x.write(reader, 900));
        }
        // It has just written, and the other one has not read yet.
        for (int step = 0; step < 2; step++) {
            int writer = step % 2;
            Supplier<NoiseEngine> written = written(step, 0);
            TEST.takesTapeAlone("write(" + writer + ", 7) twice at STEP " + step, () -> {
                NoiseEngine x = written.get();
                x.feed(1, 2, 3, 4, 5);
                return x;
            }, x -> x.write(writer, 7));
        }
    }

    private static void writeOver() {
        for (int s = 0; s < 2; s++) {
            int session = s;
            for (int n : new int[] {0, 1, 900}) {
                TEST.takesTapeAlone("write(" + s + ", " + n + ") when it's over", pairAt(3, FULL),
                        x -> x.write(session, n));
            }
        }
    }

    private static void writeNoSession() {
        for (int s : NO_SESSIONS) {
            TEST.doesNothing("write(" + s + ", 0) of 0", pairAt(0, 0), x -> x.write(s, 0), -2);
            TEST.doesNothing("write(" + s + ", 20) of 20", pairAt(0, 20), x -> x.write(s, 20), -2);
        }
        for (int s = 2; s < 4; s++) {
            int session = s;
            TEST.doesNothing("write(" + s + ", 0), not begun", pairAt(0, 20), x -> x.write(session, 0), -2);
            TEST.doesNothing("write(" + s + ", 20), not begun", pairAt(3, 20), x -> x.write(session, 20), -2);
        }
    }

    private static void writeBelow0() {
        for (int step = 0; step < 3; step++) {
            int writer = step % 2;
            for (int n : new int[] {-1, -16, MIN}) {
                TEST.doesNothing("write(" + writer + ", " + n + ") at STEP " + step, pairAt(step, 20),
                        x -> x.write(writer, n), -2);
            }
        }
    }

    /** There are enough, and yet it is too much. */
    private static void writeAbove900() {
        for (int step = 0; step < 3; step++) {
            int writer = step % 2;
            for (int n : new int[] {901, 904, 999, FULL}) {
                TEST.doesNothing("write(" + writer + ", " + n + ") at STEP " + step, pairAt(step, FULL),
                        x -> x.write(writer, n), -2);
            }
        }
    }

    private static void writeOfFewer() {
        for (int step = 0; step < 3; step++) {
            int writer = step % 2;
            for (int size : new int[] {0, 1, 20, 899}) {
                TEST.doesNothing("write of one more than " + size + " at STEP " + step, pairAt(step, size),
                        x -> x.write(writer, size + 1), -2);
            }
            TEST.doesNothing("write(" + writer + ", MAX) of 20 at STEP " + step, pairAt(step, 20),
                    x -> x.write(writer, MAX), -2);
        }
    }

    private static void read() {
        TEST.sentence("Promise 14 (read)", "The next message is n bytes of the tape; OUT is its payload: its bytes",
                BoundaryHandshakeTest::readSizes);
        TEST.sentence("Promise 14 (read)", "NONE, OUT and session stay: it's not its to read",
                BoundaryHandshakeTest::readNotIts);
        TEST.sentence("Promise 14 (read)", "over", BoundaryHandshakeTest::readOver);
        TEST.sentence("Promise 14 (read)", "or refused: too few bytes", BoundaryHandshakeTest::readTooShort);
        TEST.sentence("Promise 14 (read)", "or refused: one byte more or less", BoundaryHandshakeTest::readCut);
        TEST.sentence("Promise 14 (read)", "or refused: one byte changed", BoundaryHandshakeTest::readChanged);
        TEST.sentence("Promise 14 (read)", "or refused: again and again", BoundaryHandshakeTest::readRefusedOften);
        TEST.sentence("Promise 14 (read)", "-2 likewise: no such session (begun)",
                BoundaryHandshakeTest::readNoSession);
        TEST.sentence("Promise 14 (read)", "(n below 0", BoundaryHandshakeTest::readBelow0);
        TEST.sentence("Promise 14 (read)", "or more than there are)", BoundaryHandshakeTest::readOfFewer);
    }

    /** From an empty payload to a full tape: n has no bound of its own, unlike write()'s. */
    private static void readSizes() {
        for (int step = 0; step < 3; step++) {
            int reader = 1 - step % 2;
            int longest = FULL - BESIDE_PAYLOAD[step];
            for (int size : new int[] {0, 1, 16, 900, 901, longest - 1, longest}) {
                byte[] payload = Sizes.bytes(size);
                byte[] message = Pair.references(step)[1 - reader].write(payload);
                NoiseEngine x = Sizes.fed(Pair.atStep(step), message);
                ReferenceSession peer = Pair.references(step)[reader];
                peer.read(message);
                String call = "read(" + reader + ", " + message.length + ") at STEP " + step;
                TEST.due(call, x.read(reader, message.length), size);
                TEST.due(call + ": the tape", x.count(0), 0);
                TEST.due(call + ": STEP", x.state(reader, 0), step + 1);
                TEST.due(call + ": the hash", Check.toldHex(x, reader, 0), Check.hex(peer.known(0)));
                TEST.dueOut(call, x, payload);
            }
        }
    }

    private static void readNotIts() {
        for (int step = 0; step < 3; step++) {
            int writer = step % 2;
            for (int n : new int[] {0, 31, 32, 64, 96, FULL}) {
                TEST.takesTapeAlone("read(" + writer + ", " + n + ") at STEP " + step, pairAt(step, FULL),
                        x -> x.read(writer, n));
            }
        }
        // It has just read the message, and gets it once more.
        for (int step = 0; step < 2; step++) {
            int reader = 1 - step % 2;
            byte[] message = Pair.references(step)[1 - reader].write(NOTHING);
            TEST.takesTapeAlone("read(" + reader + ", ..) twice at STEP " + step,
                    () -> Sizes.fed(Pair.atStep(reader == 1 ? 1 : 2), message),
                    x -> x.read(reader, message.length));
        }
    }

    private static void readOver() {
        for (int s = 0; s < 2; s++) {
            int session = s;
            for (int n : new int[] {0, 32, 64, 96, FULL}) {
                TEST.takesTapeAlone("read(" + s + ", " + n + ") when it's over", pairAt(3, FULL),
                        x -> x.read(session, n));
            }
        }
    }

    private static void readTooShort() {
        int[][] sizes = {{0, 1, 31}, {0, 31, 32, 79, 80, 95}, {0, 1, 47, 48, 63}};
        for (int step = 0; step < 3; step++) {
            for (int n : sizes[step]) {
                refused("read of " + n + " at STEP " + step, step, written(step, 0), n);
            }
        }
    }

    private static void readCut() {
        for (int step = 1; step < 3; step++) {
            int whole = BESIDE_PAYLOAD[step] + 5;
            Supplier<NoiseEngine> written = written(step, 5);
            refused("read of one less at STEP " + step, step, written, whole - 1);
            refused("read of one more at STEP " + step, step, () -> {
                NoiseEngine x = written.get();
                x.feed(0, 0, 0, 0, 0);
                return x;
            }, whole + 1);
        }
    }

    /** The first and the last byte of each part: e, s and its tag, the payload and its tag. */
    private static void readChanged() {
        int[][] places = {{}, {0, 31, 32, 63, 64, 79, 80, 84, 85, 100}, {0, 31, 32, 47, 48, 52, 53, 68}};
        for (int step = 1; step < 3; step++) {
            Supplier<NoiseEngine> written = written(step, 5);
            for (int at : places[step]) {
                for (int bit : new int[] {1, 128}) {
                    // The highest bit of a point is masked, and yet it is hashed.
                    refused("read with byte " + at + " changed by " + bit + " at STEP " + step, step, () -> {
                        NoiseEngine x = written.get();
                        x.patch(at, x.out(at) ^ bit);
                        return x;
                    }, BESIDE_PAYLOAD[step] + 5);
                }
            }
        }
    }

    /** At that step its writer has written, the payload having so many bytes: the message is in OUT and on the tape. */
    private static Supplier<NoiseEngine> written(int step, int payload) {
        return () -> {
            NoiseEngine x = Sizes.fed(Pair.atStep(step), Sizes.bytes(payload));
            x.write(step % 2, payload);
            x.turn();
            return x;
        };
    }

    /** The reader refuses n bytes of the tape, and goes on with the true message, which is in OUT, as if nothing was. */
    private static void refused(String call, int step, Supplier<NoiseEngine> spoilt, int n) {
        int reader = 1 - step % 2;
        TEST.refusesFirst(call, reader, spoilt, x -> x.read(reader, n));
        NoiseEngine x = spoilt.get();
        x.read(reader, n);
        NoiseEngine y = spoilt.get();
        int size = x.turn();
        int payload = size - BESIDE_PAYLOAD[step];
        TEST.due(call + ": the true message then", x.read(reader, size), payload);
        TEST.due(call + ": the true message alone", y.read(reader, y.turn()), payload);
        TEST.due(call + ": what they tell then", Sight.figures(x), Sight.figures(y));
        TEST.due(call + ": what they say then", Sight.talk(x), Sight.talk(y));
    }

    private static void readRefusedOften() {
        for (int step = 0; step < 3; step++) {
            int reader = 1 - step % 2;
            NoiseEngine x = written(step, 0).get();
            for (int i = 1; i <= 100; i++) {
                TEST.due("read(" + reader + ", " + i % 32 + ") at STEP " + step, x.read(reader, i % 32), -1);
                x.turn();
            }
            TEST.due("refused", x.state(reader, 5), 100);
            TEST.due("the true message then", x.read(reader, BESIDE_PAYLOAD[step]), 0);
            TEST.due("refused", x.state(reader, 5), 100);
            TEST.due("STEP", x.state(reader, 0), step + 1);
        }
    }

    private static void readNoSession() {
        for (int s : NO_SESSIONS) {
            TEST.doesNothing("read(" + s + ", 0) of 0", pairAt(0, 0), x -> x.read(s, 0), -2);
            TEST.doesNothing("read(" + s + ", 32) of 32", pairAt(0, 32), x -> x.read(s, 32), -2);
        }
        for (int s = 2; s < 4; s++) {
            int session = s;
            TEST.doesNothing("read(" + s + ", 0), not begun", pairAt(0, 32), x -> x.read(session, 0), -2);
            TEST.doesNothing("read(" + s + ", 32), not begun", pairAt(3, 32), x -> x.read(session, 32), -2);
        }
    }

    private static void readBelow0() {
        for (int step = 0; step < 3; step++) {
            int reader = 1 - step % 2;
            for (int n : new int[] {-1, -32, MIN}) {
                TEST.doesNothing("read(" + reader + ", " + n + ") at STEP " + step, pairAt(step, 32),
                        x -> x.read(reader, n), -2);
            }
        }
    }

    private static void readOfFewer() {
        for (int step = 0; step < 3; step++) {
            int reader = 1 - step % 2;
            for (int size : new int[] {0, 31, 63, 95, 96, FULL}) {
                TEST.doesNothing("read of one more than " + size + " at STEP " + step, pairAt(step, size),
                        x -> x.read(reader, size + 1), -2);
            }
            TEST.doesNothing("read(" + reader + ", MAX) of 32 at STEP " + step, pairAt(step, 32),
                    x -> x.read(reader, MAX), -2);
        }
    }

    private static void state() {
        TEST.sentence("Promise 18 (state)", "Of a session: 0 STEP", BoundaryHandshakeTest::stateStep);
        TEST.sentence("Promise 18 (state)", "1 whether it's the initiator (1)", BoundaryHandshakeTest::stateRole);
        TEST.sentence("Promise 18 (state)", "2 whether it has the other one's static key (1)",
                BoundaryHandshakeTest::stateStatic);
        TEST.sentence("Promise 18 (state)",
                "3 and 4 n of the CipherStates by which it sends and receives (0 till it's over)",
                BoundaryHandshakeTest::stateNonces);
        TEST.sentence("Promise 18 (state)", "5 messages refused (by read(), receive())",
                BoundaryHandshakeTest::stateRefused);
        TEST.sentence("Promise 18 (state)", "NONE: there is none such", BoundaryHandshakeTest::stateNone);
    }

    private static void stateStep() {
        for (int step = 0; step < 3; step++) {
            NoiseEngine x = Pair.atStep(step);
            int writer = step % 2;
            TEST.due("the writer's before", x.state(writer, 0), step);
            TEST.due("the reader's before", x.state(1 - writer, 0), step);
            x.write(writer, 0);
            TEST.due("the writer's behind write()", x.state(writer, 0), step + 1);
            TEST.due("the reader's behind write()", x.state(1 - writer, 0), step);
            x.read(1 - writer, x.turn());
            TEST.due("the reader's behind read()", x.state(1 - writer, 0), step + 1);
        }
        NoiseEngine x = Pair.atStep(3);
        x.write(0, 0);
        x.read(1, 0);
        x.send(0, 0);
        x.receive(1, x.turn());
        TEST.due("3 stays", x.state(0, 0), 3);
        TEST.due("3 stays", x.state(1, 0), 3);
    }

    private static void stateRole() {
        for (int step = 0; step <= 3; step++) {
            NoiseEngine x = Pair.atStep(step);
            TEST.due("the initiator's at STEP " + step, x.state(0, 1), 1);
            TEST.due("the responder's at STEP " + step, x.state(1, 1), 0);
        }
    }

    /** The initiator has it from message 1, the responder from message 2: not earlier, nor from a refused one. */
    private static void stateStatic() {
        int[][] due = {{0, 0}, {0, 0}, {1, 0}, {1, 1}};
        for (int step = 0; step <= 3; step++) {
            NoiseEngine x = Pair.atStep(step);
            TEST.due("the initiator's at STEP " + step, x.state(0, 2), due[step][0]);
            TEST.due("the responder's at STEP " + step, x.state(1, 2), due[step][1]);
        }
        for (int step = 1; step < 3; step++) {
            int reader = 1 - step % 2;
            NoiseEngine x = written(step, 0).get();
            x.patch(BESIDE_PAYLOAD[step] - 1, x.out(BESIDE_PAYLOAD[step] - 1) + 1);
            x.read(reader, BESIDE_PAYLOAD[step]);
            TEST.due("from a message whose payload was refused", x.state(reader, 2), 0);
            x.read(reader, x.turn());
            TEST.due("from the true message", x.state(reader, 2), 1);
        }
    }

    private static void stateNonces() {
        for (int step = 0; step <= 3; step++) {
            NoiseEngine x = Pair.atStep(step);
            for (int s = 0; s < 2; s++) {
                TEST.due("state(" + s + ", 3) at STEP " + step, x.state(s, 3), 0);
                TEST.due("state(" + s + ", 4) at STEP " + step, x.state(s, 4), 0);
            }
        }
        NoiseEngine x = Pair.atStep(3);
        for (int i = 1; i <= 3; i++) {
            x.send(0, 0);
            TEST.due("the sender's 3", x.state(0, 3), i);
            TEST.due("the sender's 4", x.state(0, 4), 0);
            TEST.due("the receiver's 4 before", x.state(1, 4), i - 1);
            x.receive(1, x.turn());
            TEST.due("the receiver's 4", x.state(1, 4), i);
            TEST.due("the receiver's 3", x.state(1, 3), 0);
        }
        x.send(1, 0);
        x.receive(0, x.turn());
        TEST.due("the other way: 3", x.state(1, 3), 1);
        TEST.due("the other way: 4", x.state(0, 4), 1);
        TEST.due("the one way stays: 3", x.state(0, 3), 3);
        TEST.due("the one way stays: 4", x.state(1, 4), 3);
    }

    /** Not what was out of turn, nor a call of -2; each session by itself; from the handshake on into the transport. */
    private static void stateRefused() {
        NoiseEngine x = Pair.atStep(0);
        Check.clear(x);
        x.read(1, 0);
        TEST.due("read() of too few", x.state(1, 5), 1);
        x.read(1, -1);
        x.read(1, 1);
        TEST.due("-2 of read()", x.state(1, 5), 1);
        x.read(0, 0);
        x.receive(0, 0);
        x.write(1, 0);
        x.send(1, 0);
        TEST.due("out of turn", x.state(0, 5), 0);
        TEST.due("what isn't read() or receive()", x.state(1, 5), 1);
        for (int step = 0; step < 3; step++) {
            x.write(step % 2, 0);
            x.read(1 - step % 2, x.turn());
        }
        TEST.due("messages that were read", x.state(1, 5), 1);
        x.receive(1, 0);
        TEST.due("receive() of too few", x.state(1, 5), 2);
        x.receive(1, -1);
        x.receive(1, 1);
        x.read(1, 0);
        TEST.due("-2 of receive(), read() when it's over", x.state(1, 5), 2);
        x.send(0, 0);
        x.receive(0, x.turn());
        x.receive(1, x.turn());
        TEST.due("receive() of its own message", x.state(0, 5), 1);
        TEST.due("receive() of the other one's", x.state(1, 5), 2);
        x.open(0, 0, 0, 0);
        TEST.due("open() is of no session", Sight.refusals(x), "1 2 -1 -1 ");
    }

    private static void stateNone() {
        for (int s : NO_SESSIONS) {
            for (int what = 0; what < 6; what++) {
                int figure = what;
                TEST.doesNothing("state(" + s + ", " + what + ")", pairAt(3, 20), x -> x.state(s, figure), -1);
            }
        }
        for (int what : new int[] {-1, 6, MIN, MAX}) {
            TEST.doesNothing("state(0, " + what + ")", pairAt(2, 20), x -> x.state(0, what), -1);
            TEST.doesNothing("state(1, " + what + ")", pairAt(3, 20), x -> x.state(1, what), -1);
        }
        for (int what = 0; what < 6; what++) {
            int figure = what;
            TEST.doesNothing("state(2, " + what + "), not begun", pairAt(3, 20), x -> x.state(2, figure), -1);
        }
    }

    private static void told() {
        TEST.sentence("Promise 19 (told)", "Byte k (0 to 31)", BoundaryHandshakeTest::toldEnds);
        TEST.sentence("Promise 19 (told)", "of a session's handshake hash as it is (which 0)",
                BoundaryHandshakeTest::toldHash);
        TEST.sentence("Promise 19 (told)", "of the other one's static public key (1)",
                BoundaryHandshakeTest::toldStatic);
        TEST.sentence("Promise 19 (told)", "of its ephemeral one (2)", BoundaryHandshakeTest::toldEphemeral);
        TEST.sentence("Promise 19 (told)", "NONE: there is none such", BoundaryHandshakeTest::toldNone);
        TEST.sentence("Promise 19 (told)", "or it isn't known yet", BoundaryHandshakeTest::toldUnknown);
    }

    private static void toldEnds() {
        ReferenceSession[] peers = Pair.references(3);
        NoiseEngine x = Pair.atStep(3);
        for (int s = 0; s < 2; s++) {
            for (int which = 0; which < 3; which++) {
                String call = "told(" + s + ", " + which + ", ";
                TEST.due(call + "0)", x.told(s, which, 0), peers[s].known(which)[0] & 0xff);
                TEST.due(call + "31)", x.told(s, which, 31), peers[s].known(which)[31] & 0xff);
                for (int k : new int[] {-1, 32, MIN, MAX}) {
                    TEST.due(call + k + ")", x.told(s, which, k), -1);
                }
            }
        }
    }

    /** From the prologue on, after each message, and never by what is refused or sent. */
    private static void toldHash() {
        for (int step = 0; step <= 3; step++) {
            ReferenceSession[] peers = Pair.references(step);
            NoiseEngine x = Pair.atStep(step);
            TEST.due("the initiator's at STEP " + step, Check.toldHex(x, 0, 0), Check.hex(peers[0].known(0)));
            TEST.due("the responder's at STEP " + step, Check.toldHex(x, 1, 0), Check.hex(peers[1].known(0)));
        }
        NoiseEngine x = Pair.atStep(3);
        String last = Check.toldHex(x, 0, 0);
        x.send(0, 0);
        x.receive(1, x.turn());
        x.receive(1, 0);
        x.rekey(0, true);
        TEST.due("the sender's stays", Check.toldHex(x, 0, 0), last);
        TEST.due("the receiver's stays", Check.toldHex(x, 1, 0), last);
    }

    private static void toldStatic() {
        NoiseEngine x = Pair.atStep(3);
        TEST.due("the initiator's", Check.toldHex(x, 0, 1), Pair.publicHex(Pair.RESPONDER_STATIC));
        TEST.due("the responder's", Check.toldHex(x, 1, 1), Pair.publicHex(Pair.INITIATOR_STATIC));
    }

    private static void toldEphemeral() {
        NoiseEngine x = Pair.atStep(3);
        TEST.due("the initiator's", Check.toldHex(x, 0, 2), Pair.publicHex(Pair.RESPONDER_EPHEMERAL));
        TEST.due("the responder's", Check.toldHex(x, 1, 2), Pair.publicHex(Pair.INITIATOR_EPHEMERAL));
        // It is told as it came, also where it isn't below p and its highest bit is set.
        NoiseEngine y = Sizes.fed(Pair.atStep(0), Check.bytes("ff".repeat(32)));
        TEST.due("read of an e of ones", y.read(1, 32), 0);
        TEST.due("an e of ones", Check.toldHex(y, 1, 2), "ff".repeat(32));
    }

    private static void toldNone() {
        for (int which : new int[] {-1, 3, MIN, MAX}) {
            TEST.doesNothing("told(0, " + which + ", 0)", pairAt(3, 20), x -> x.told(0, which, 0), -1);
            TEST.doesNothing("told(1, " + which + ", 31)", pairAt(3, 20), x -> x.told(1, which, 31), -1);
        }
        for (int which = 0; which < 3; which++) {
            int kind = which;
            for (int s : NO_SESSIONS) {
                TEST.doesNothing("told(" + s + ", " + which + ", 0)", pairAt(3, 20), x -> x.told(s, kind, 0), -1);
            }
            TEST.doesNothing("told(2, " + which + ", 0), not begun", pairAt(3, 20), x -> x.told(2, kind, 0), -1);
            TEST.doesNothing("told(3, " + which + ", 0), not begun", pairAt(3, 20), x -> x.told(3, kind, 0), -1);
        }
    }

    private static void toldUnknown() {
        int[][] staticKnown = {{0, 0}, {0, 0}, {1, 0}, {1, 1}};
        int[][] ephemeralKnown = {{0, 0}, {0, 1}, {1, 1}, {1, 1}};
        for (int step = 0; step <= 3; step++) {
            NoiseEngine x = Pair.atStep(step);
            for (int s = 0; s < 2; s++) {
                TEST.due("told(" + s + ", 1, 0) at STEP " + step, x.told(s, 1, 0) >= 0, staticKnown[step][s] == 1);
                TEST.due("told(" + s + ", 1, 31) at STEP " + step, x.told(s, 1, 31) >= 0, staticKnown[step][s] == 1);
                TEST.due("told(" + s + ", 2, 0) at STEP " + step, x.told(s, 2, 0) >= 0, ephemeralKnown[step][s] == 1);
                TEST.due("told(" + s + ", 2, 31) at STEP " + step, x.told(s, 2, 31) >= 0, ephemeralKnown[step][s] == 1);
            }
        }
        // A refused message 1 has told neither key.
        NoiseEngine x = written(1, 0).get();
        x.patch(95, x.out(95) + 1);
        x.read(0, 96);
        TEST.due("told(0, 1, 0) from a refused message", x.told(0, 1, 0), -1);
        TEST.due("told(0, 2, 0) from a refused message", x.told(0, 2, 0), -1);
    }
}
