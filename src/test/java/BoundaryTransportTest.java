import java.util.function.Supplier;

/** The boundary sentences of promises 15 to 17: send, receive, rekey. */
public final class BoundaryTransportTest {
    private static final Boundary TEST = new Boundary("BoundaryTransportTest");
    private static final int MIN = Integer.MIN_VALUE;
    private static final int MAX = Integer.MAX_VALUE;
    private static final int[] NO_SESSIONS = {-1, 4, MIN, MAX};
    private static final int FULL = Sizes.FULL;
    private static final byte[] NOTHING = {};

    public static void main(String[] args) {
        send();
        receive();
        rekey();
        TEST.end();
    }

    /** Sessions 0 (initiator) and 1 (responder) have done so many messages; the tape has so many bytes. */
    private static Supplier<NoiseEngine> pairAt(int step, int size) {
        return () -> Sizes.tape(Pair.atStep(step), size);
    }

    private static void send() {
        TEST.sentence("Promise 15 (send)", "OUT is a transport message of n bytes of the tape: n + 16",
                BoundaryTransportTest::sendSizes);
        TEST.sentence("Promise 15 (send)", "NONE: it's not over", BoundaryTransportTest::sendNotOver);
        TEST.sentence("Promise 15 (send)", "-2 as write(): no such session (begun)",
                BoundaryTransportTest::sendNoSession);
        TEST.sentence("Promise 15 (send)", "-2 as write(): n is below 0", BoundaryTransportTest::sendBelow0);
        TEST.sentence("Promise 15 (send)", "-2 as write(): above 900", BoundaryTransportTest::sendAbove900);
        TEST.sentence("Promise 15 (send)", "-2 as write(): or more than there are",
                BoundaryTransportTest::sendOfFewer);
    }

    private static void sendSizes() {
        byte[] all = Sizes.bytes(FULL);
        for (int s = 0; s < 2; s++) {
            for (int n : new int[] {0, 1, 15, 16, 17, 63, 64, 65, 899, 900}) {
                NoiseEngine x = Sizes.fed(Pair.atStep(3), all);
                String call = "send(" + s + ", " + n + ")";
                TEST.due(call, x.send(s, n), n + 16);
                TEST.due(call + ": the tape", x.count(0), 0);
                TEST.due(call + ": n", x.state(s, 3), 1);
                TEST.dueOut(call, x, Pair.references(3)[s].send(Reference.part(all, 0, n)));
            }
        }
    }

    private static void sendNotOver() {
        for (int step = 0; step < 3; step++) {
            for (int s = 0; s < 2; s++) {
                int session = s;
                for (int n : new int[] {0, 20, 900}) {
                    TEST.takesTapeAlone("send(" + s + ", " + n + ") at STEP " + step, pairAt(step, FULL),
                            x -> x.send(session, n));
                }
            }
        }
        // Message 2 is written but not yet read: the writer alone is over.
        NoiseEngine x = Pair.atStep(2);
        x.write(0, 0);
        TEST.due("send(1, 0) before message 2 is read", x.send(1, 0), -1);
        TEST.due("send(0, 0) behind message 2", x.send(0, 0), 16);
    }

    private static void sendNoSession() {
        for (int s : NO_SESSIONS) {
            TEST.doesNothing("send(" + s + ", 0) of 0", pairAt(3, 0), x -> x.send(s, 0), -2);
            TEST.doesNothing("send(" + s + ", 20) of 20", pairAt(3, 20), x -> x.send(s, 20), -2);
        }
        for (int s = 2; s < 4; s++) {
            int session = s;
            TEST.doesNothing("send(" + s + ", 20), not begun", pairAt(3, 20), x -> x.send(session, 20), -2);
        }
    }

    private static void sendBelow0() {
        for (int s = 0; s < 2; s++) {
            int session = s;
            for (int n : new int[] {-1, -16, MIN}) {
                TEST.doesNothing("send(" + s + ", " + n + ") of 20", pairAt(3, 20), x -> x.send(session, n), -2);
                TEST.doesNothing("send(" + s + ", " + n + ") of 0", pairAt(3, 0), x -> x.send(session, n), -2);
            }
        }
    }

    /** There are enough, and yet it is too much. */
    private static void sendAbove900() {
        for (int s = 0; s < 2; s++) {
            int session = s;
            for (int n : new int[] {901, 984, 985, 999, FULL}) {
                TEST.doesNothing("send(" + s + ", " + n + ")", pairAt(3, FULL), x -> x.send(session, n), -2);
            }
        }
    }

    private static void sendOfFewer() {
        for (int s = 0; s < 2; s++) {
            int session = s;
            for (int size : new int[] {0, 1, 20, 899}) {
                TEST.doesNothing("send(" + s + ", ..) of one more than " + size, pairAt(3, size),
                        x -> x.send(session, size + 1), -2);
            }
            TEST.doesNothing("send(" + s + ", MAX)", pairAt(3, 20), x -> x.send(session, MAX), -2);
        }
    }

    private static void receive() {
        TEST.sentence("Promise 16 (receive)",
                "OUT is what a transport message of n bytes of the tape opens to: n - 16",
                BoundaryTransportTest::receiveSizes);
        TEST.sentence("Promise 16 (receive)", "NONE, OUT and session stay: it's not over",
                BoundaryTransportTest::receiveNotOver);
        TEST.sentence("Promise 16 (receive)", "or refused: too few bytes", BoundaryTransportTest::receiveTooShort);
        TEST.sentence("Promise 16 (receive)", "or refused: a byte changed, more or less",
                BoundaryTransportTest::receiveSpoilt);
        TEST.sentence("Promise 16 (receive)", "or refused: not the next one, or not the other one's",
                BoundaryTransportTest::receiveNotNext);
        TEST.sentence("Promise 16 (receive)", "-2 as read(): no such session (begun)",
                BoundaryTransportTest::receiveNoSession);
        TEST.sentence("Promise 16 (receive)", "-2 as read(): n below 0", BoundaryTransportTest::receiveBelow0);
        TEST.sentence("Promise 16 (receive)", "-2 as read(): or more than there are",
                BoundaryTransportTest::receiveOfFewer);
    }

    /** From an empty text to a full tape: n has no bound of its own, unlike send()'s. */
    private static void receiveSizes() {
        for (int s = 0; s < 2; s++) {
            for (int n : new int[] {16, 17, 31, 32, 80, 81, 900, 901, 916, 917, 999, FULL}) {
                byte[] plain = Sizes.bytes(n - 16);
                NoiseEngine x = Sizes.fed(Pair.atStep(3), Pair.references(3)[1 - s].send(plain));
                String call = "receive(" + s + ", " + n + ")";
                TEST.due(call, x.receive(s, n), n - 16);
                TEST.due(call + ": the tape", x.count(0), 0);
                TEST.due(call + ": n", x.state(s, 4), 1);
                TEST.due(call + ": refused", x.state(s, 5), 0);
                TEST.dueOut(call, x, plain);
            }
        }
    }

    private static void receiveNotOver() {
        for (int step = 0; step < 3; step++) {
            for (int s = 0; s < 2; s++) {
                int session = s;
                for (int n : new int[] {0, 16, FULL}) {
                    TEST.takesTapeAlone("receive(" + s + ", " + n + ") at STEP " + step, pairAt(step, FULL),
                            x -> x.receive(session, n));
                }
            }
        }
        // A transport message that comes before message 2 is read is not lost.
        NoiseEngine x = Pair.atStep(2);
        x.write(0, 0);
        String message = Check.outHex(x);
        x.send(0, 0);
        TEST.due("receive(1, 16) before message 2 is read", x.receive(1, x.turn()), -1);
        String sent = Check.outHex(x);
        Check.feedHex(x, message);
        TEST.due("read(1, 64)", x.read(1, 64), 0);
        Check.feedHex(x, sent);
        TEST.due("receive(1, 16) behind message 2", x.receive(1, 16), 0);
    }

    private static void receiveTooShort() {
        for (int s = 0; s < 2; s++) {
            for (int n : new int[] {0, 1, 14, 15}) {
                refused("receive(" + s + ", " + n + ") of 16", s, sent(s, 0), n);
            }
        }
    }

    private static void receiveSpoilt() {
        for (int s = 0; s < 2; s++) {
            Supplier<NoiseEngine> sent = sent(s, 5);
            for (int at : new int[] {0, 4, 5, 20}) {
                for (int bit : new int[] {1, 128}) {
                    refused("receive with byte " + at + " changed by " + bit, s, () -> {
                        NoiseEngine x = sent.get();
                        x.patch(at, x.out(at) ^ bit);
                        return x;
                    }, 21);
                }
            }
            refused("receive of one less", s, sent, 20);
            refused("receive of one more", s, () -> {
                NoiseEngine x = sent.get();
                x.feed(0, 0, 0, 0, 0);
                return x;
            }, 22);
        }
    }

    private static void receiveNotNext() {
        for (int s = 0; s < 2; s++) {
            int session = s;
            ReferenceSession other = Pair.references(3)[1 - s];
            byte[] first = other.send(NOTHING);
            byte[] second = other.send(NOTHING);
            TEST.refusesFirst("receive of the second one first", s, () -> Sizes.fed(Pair.atStep(3), second),
                    x -> x.receive(session, 16));
            TEST.refusesFirst("receive of the first one again", s, () -> {
                NoiseEngine x = Sizes.fed(Pair.atStep(3), first);
                x.receive(session, 16);
                return Sizes.fed(x, first);
            }, x -> x.receive(session, 16));
            TEST.refusesFirst("receive of its own", s, sent(1 - s, 0), x -> x.receive(session, 16));
            NoiseEngine x = Sizes.fed(Pair.atStep(3), second);
            x.receive(s, 16);
            Sizes.fed(x, first);
            TEST.due("the first one then", x.receive(s, 16), 0);
            Sizes.fed(x, second);
            TEST.due("the second one then", x.receive(s, 16), 0);
            TEST.due("n then", x.state(s, 4), 2);
        }
    }

    /** A message of so many bytes of text on its way to session s: it is in OUT and on the tape. */
    private static Supplier<NoiseEngine> sent(int s, int size) {
        return () -> {
            NoiseEngine x = Sizes.fed(Pair.atStep(3), Sizes.bytes(size));
            x.send(1 - s, size);
            x.turn();
            return x;
        };
    }

    /** Session s refuses n bytes of the tape, and opens the true message, which is in OUT, as if nothing was. */
    private static void refused(String call, int s, Supplier<NoiseEngine> spoilt, int n) {
        TEST.refusesFirst(call, s, spoilt, x -> x.receive(s, n));
        NoiseEngine x = spoilt.get();
        x.receive(s, n);
        int size = x.turn();
        TEST.due(call + ": n stays", x.state(s, 4), 0);
        TEST.due(call + ": the true message then", x.receive(s, size), size - 16);
        TEST.due(call + ": n then", x.state(s, 4), 1);
        TEST.due(call + ": refused then", x.state(s, 5), 1);
        TEST.dueOut(call, x, Sizes.bytes(size - 16));
    }

    private static void receiveNoSession() {
        for (int s : NO_SESSIONS) {
            TEST.doesNothing("receive(" + s + ", 0) of 0", pairAt(3, 0), x -> x.receive(s, 0), -2);
            TEST.doesNothing("receive(" + s + ", 16) of 16", pairAt(3, 16), x -> x.receive(s, 16), -2);
        }
        for (int s = 2; s < 4; s++) {
            int session = s;
            TEST.doesNothing("receive(" + s + ", 16), not begun", pairAt(3, 16), x -> x.receive(session, 16), -2);
        }
    }

    private static void receiveBelow0() {
        for (int s = 0; s < 2; s++) {
            int session = s;
            for (int n : new int[] {-1, -16, MIN}) {
                TEST.doesNothing("receive(" + s + ", " + n + ") of 20", pairAt(3, 20), x -> x.receive(session, n), -2);
                TEST.doesNothing("receive(" + s + ", " + n + ") of 0", pairAt(3, 0), x -> x.receive(session, n), -2);
            }
        }
    }

    private static void receiveOfFewer() {
        for (int s = 0; s < 2; s++) {
            int session = s;
            for (int size : new int[] {0, 15, 16, 20, 900, 999, FULL}) {
                TEST.doesNothing("receive(" + s + ", ..) of one more than " + size, pairAt(3, size),
                        x -> x.receive(session, size + 1), -2);
            }
            TEST.doesNothing("receive(" + s + ", MAX)", pairAt(3, 20), x -> x.receive(session, MAX), -2);
        }
    }

    private static void rekey() {
        TEST.sentence("Promise 17 (rekey)",
                "REKEY of the CipherState by which a session sends, or receives (sending false): true",
                BoundaryTransportTest::rekeyEach);
        TEST.sentence("Promise 17 (rekey)", "False, doing nothing: no such session",
                BoundaryTransportTest::rekeyNoSession);
        TEST.sentence("Promise 17 (rekey)", "or it's not over", BoundaryTransportTest::rekeyNotOver);
    }

    /** Of each of the four CipherStates: once and twice, before its first message and behind it. */
    private static void rekeyEach() {
        for (int s = 0; s < 2; s++) {
            for (boolean sending : new boolean[] {true, false}) {
                for (int times = 1; times <= 2; times++) {
                    for (int before = 0; before <= 1; before++) {
                        rekeyOne(s, sending, times, before);
                    }
                }
            }
        }
    }

    private static void rekeyOne(int s, boolean sending, int times, int before) {
        String call = "rekey(" + s + ", " + sending + ") " + times + " times behind " + before + " messages";
        NoiseEngine x = Pair.atStep(3);
        ReferenceSession[] peers = Pair.references(3);
        for (int i = 0; i < before; i++) {
            exchange(call, x, peers, 0);
            exchange(call, x, peers, 1);
        }
        Sizes.tape(x, 40);
        for (int i = 0; i < times; i++) {
            TEST.due(call, x.rekey(s, sending), true);
            peers[s].rekey(sending);
        }
        TEST.due(call + ": the tape", x.count(0), 40);
        TEST.due(call + ": OUT", x.count(1), 40);
        TEST.due(call + ": 3", x.state(s, 3), before);
        TEST.due(call + ": 4", x.state(s, 4), before);
        for (int from = 0; from < 2; from++) {
            exchange(call, x, peers, from);
            exchange(call, x, peers, from);
        }
        TEST.due(call + ": refused by 0", x.state(0, 5), peers[0].figure(5));
        TEST.due(call + ": refused by 1", x.state(1, 5), peers[1].figure(5));
    }

    /** A message from one to the other, who may have another key: both do as the references do. */
    private static void exchange(String call, NoiseEngine x, ReferenceSession[] peers, int from) {
        byte[] message = peers[from].send(NOTHING);
        Sizes.empty(x);
        x.send(from, 0);
        TEST.dueOut(call + ": send(" + from + ", 0)", x, message);
        byte[] plain = peers[1 - from].receive(message);
        TEST.due(call + ": receive(" + (1 - from) + ", 16)", x.receive(1 - from, x.turn()), plain == null ? -1 : 0);
    }

    private static void rekeyNoSession() {
        for (boolean sending : new boolean[] {true, false}) {
            for (int s : NO_SESSIONS) {
                TEST.isFalse("rekey(" + s + ", " + sending + ")", pairAt(3, 40), x -> x.rekey(s, sending));
            }
            TEST.isFalse("rekey(2, " + sending + "), not begun", pairAt(3, 40), x -> x.rekey(2, sending));
            TEST.isFalse("rekey(3, " + sending + "), not begun", pairAt(3, 40), x -> x.rekey(3, sending));
        }
    }

    private static void rekeyNotOver() {
        for (int step = 0; step < 3; step++) {
            for (boolean sending : new boolean[] {true, false}) {
                TEST.isFalse("rekey(0, " + sending + ") at STEP " + step, pairAt(step, 40), x -> x.rekey(0, sending));
                TEST.isFalse("rekey(1, " + sending + ") at STEP " + step, pairAt(step, 40), x -> x.rekey(1, sending));
            }
        }
        NoiseEngine x = Pair.atStep(2);
        x.write(0, 0);
        TEST.due("rekey(1, true) before message 2 is read", x.rekey(1, true), false);
        TEST.due("rekey(0, true) behind message 2", x.rekey(0, true), true);
    }
}
