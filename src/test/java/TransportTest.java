/** Promises 15 to 17 and what state() tells of them: send, receive and rekey. */
public final class TransportTest {
    private static final Check CHECK = new Check("TransportTest");
    private static final int[] NO_SESSIONS = {-1, 4, Integer.MIN_VALUE, Integer.MAX_VALUE};

    public static void main(String[] args) {
        vector();
        sendEdges();
        sendBeforeOver();
        receiveEdges();
        receiveBeforeOver();
        receiveRefused();
        bothWays();
        rekeyEdges();
        rekeyEachWay();
        CHECK.end();
    }

    /** Goes on behind the vector of HandshakeTest. */
    private static void vector() {
        NoiseEngine x = Pair.withKeys();
        for (int s = 0; s < 2; s++) {
            Check.feedHex(x, "4a6f686e2047616c74");
            x.start(s, s == 0, 2 * s, 2 * s + 1, 9);
        }
        String[] payloads = {"4c756477696720766f6e204d69736573", "4d757272617920526f746862617264", "462e20412e20486179656b"};
        for (int i = 0; i < 3; i++) {
            Check.feedHex(x, payloads[i]);
            x.write(i % 2, payloads[i].length() / 2);
            x.read(1 - i % 2, x.turn());
        }
        String[][] sent = {
            {"4361726c204d656e676572", "96763ed773f8e47bb3712f0e29b3060ffc956ffc146cee53d5e1df"},
            {"4a65616e2d426170746973746520536179", "3e40f15f6f3a46ae446b253bf8b1d9ffb6ed9b174d272328ff91a7e2e5c79c07f5"},
            {"457567656e2042f6686d20766f6e2042617765726b",
                "eb3f3515110702e047a6c9da4478b6ead94873c11c0f2d710ddb3f09fce024b3a58502ae3f"},
        };
        for (int i = 0; i < 3; i++) {
            int sender = 1 - i % 2;
            int n = sent[i][0].length() / 2;
            Check.feedHex(x, sent[i][0]);
            CHECK.due("send(" + sender + ", " + n + ")", x.send(sender, n), n + 16);
            CHECK.due("the transport message", Check.outHex(x), sent[i][1]);
            CHECK.due("receive", x.receive(1 - sender, x.turn()), n);
            CHECK.due("what was sent", Check.outHex(x), sent[i][0]);
        }
    }

    private static void sendEdges() {
        NoiseEngine x = Pair.atStep(3);
        Check.clear(x);
        for (int i = 0; i < 50; i++) {
            x.feed(i, i, i, i, i);
        }
        for (int s : NO_SESSIONS) {
            CHECK.due("send(" + s + ", 0)", x.send(s, 0), -2);
        }
        CHECK.due("send of one not begun", x.send(2, 0), -2);
        for (int n : new int[] {-1, 901, 1000, 1001, Integer.MIN_VALUE, Integer.MAX_VALUE}) {
            CHECK.due("send(0, " + n + ")", x.send(0, n), -2);
        }
        CHECK.due("-2 leaves the tape", x.count(0), 1000);
        CHECK.due("-2 leaves OUT", x.count(1), 32);
        CHECK.due("-2 leaves n", x.state(0, 3), 0);
        CHECK.due("send(0, 900)", x.send(0, 900), 916);
        CHECK.due("send empties the tape", x.count(0), 0);
        CHECK.due("send goes on with n", x.state(0, 3), 1);
        CHECK.due("receive of it", x.receive(1, x.turn()), 900);
        CHECK.due("send(0, 1) of nothing", x.send(0, 1), -2);
    }

    private static void sendBeforeOver() {
        for (int step = 0; step < 3; step++) {
            NoiseEngine x = Pair.atStep(step);
            for (int s = 0; s < 2; s++) {
                Check.clear(x);
                x.feed(1, 2, 3, 4, 5);
                CHECK.due("send(" + s + ", 21), n is wrong too", x.send(s, 21), -2);
                CHECK.due("send(" + s + ", 7) at STEP " + step, x.send(s, 7), -1);
                CHECK.due("NONE empties the tape", x.count(0), 0);
                CHECK.due("NONE leaves OUT", x.count(1), 32);
                CHECK.due("NONE leaves the STEP", x.state(s, 0), step);
                CHECK.due("NONE leaves n", x.state(s, 3), 0);
            }
        }
    }

    private static void receiveEdges() {
        NoiseEngine x = Pair.atStep(3);
        Check.clear(x);
        x.feed(1, 2, 3, 4, 5);
        for (int s : NO_SESSIONS) {
            CHECK.due("receive(" + s + ", 16)", x.receive(s, 16), -2);
        }
        CHECK.due("receive of one not begun", x.receive(3, 16), -2);
        for (int n : new int[] {-1, 21, Integer.MIN_VALUE, Integer.MAX_VALUE}) {
            CHECK.due("receive(0, " + n + ")", x.receive(0, n), -2);
        }
        CHECK.due("-2 leaves the tape", x.count(0), 20);
        CHECK.due("-2 is no refused message", x.state(0, 5), 0);
        Check.clear(x);
        for (int i = 0; i < 50; i++) {
            x.feed(i, i, i, i, i);
        }
        CHECK.due("receive(0, 1000) is refused, not -2", x.receive(0, 1000), -1);
        CHECK.due("receive(0, 1000) is refused", x.state(0, 5), 1);
    }

    private static void receiveBeforeOver() {
        for (int step = 0; step < 3; step++) {
            NoiseEngine x = Pair.atStep(step);
            for (int s = 0; s < 2; s++) {
                Check.clear(x);
                x.feed(1, 2, 3, 4, 5);
                CHECK.due("receive(" + s + ", 21), n is wrong too", x.receive(s, 21), -2);
                CHECK.due("receive(" + s + ", 16) at STEP " + step, x.receive(s, 16), -1);
                CHECK.due("NONE empties the tape", x.count(0), 0);
                CHECK.due("NONE leaves OUT", x.count(1), 32);
                CHECK.due("not over is no refused message", x.state(s, 5), 0);
            }
        }
    }

    private static void receiveRefused() {
        NoiseEngine x = Pair.atStep(3);
        x.feed(-1, -1, -1, -1, -1);
        x.send(0, 5);
        String message = Check.outHex(x);
        int refused = 0;
        for (int n = 0; n < 21; n++) {
            x.turn();
            CHECK.due("receive(1, " + n + ") of 21", x.receive(1, n), -1);
            refused++;
            CHECK.due("cut off: the tape is empty", x.count(0), 0);
        }
        for (int k = 0; k < 21; k++) {
            x.turn();
            x.patch(k, ~x.out(k));
            CHECK.due("receive with byte " + k + " changed", x.receive(1, 21), -1);
            refused++;
        }
        CHECK.due("refused", x.state(1, 5), refused);
        CHECK.due("refused: n stays", x.state(1, 4), 0);
        CHECK.due("refused: OUT stays", Check.outHex(x), message);
        x.turn();
        CHECK.due("the sender does not open its own", x.receive(0, 21), -1);
        x.turn();
        CHECK.due("the true message then", x.receive(1, 21), 5);
        CHECK.due("the true message then: OUT", Check.outHex(x), "ff".repeat(5));
        CHECK.due("the true message then: n", x.state(1, 4), 1);
        Check.clear(x);
        Check.feedHex(x, message);
        CHECK.due("the same message again", x.receive(1, 21), -1);
        CHECK.due("the same message again: n", x.state(1, 4), 1);
    }

    /** Each CipherState has its own n; messages are opened in their order alone. */
    private static void bothWays() {
        NoiseEngine x = Pair.atStep(3);
        Check.clear(x);
        for (int i = 1; i <= 3; i++) {
            x.send(0, 0);
            x.receive(1, x.turn());
        }
        x.send(1, 0);
        x.receive(0, x.turn());
        int[][] due = {{3, 1}, {1, 3}};
        for (int s = 0; s < 2; s++) {
            CHECK.due("state(" + s + ", 3)", x.state(s, 3), due[s][0]);
            CHECK.due("state(" + s + ", 4)", x.state(s, 4), due[s][1]);
            CHECK.due("state(" + s + ", 5)", x.state(s, 5), 0);
        }
        x.send(0, 0);
        String first = Check.outHex(x);
        x.send(0, 0);
        CHECK.due("two empty messages differ", Check.outHex(x).equals(first), false);
        CHECK.due("the later one first", x.receive(1, x.turn()), -1);
        Check.feedHex(x, first);
        CHECK.due("the earlier one", x.receive(1, 16), 0);
    }

    private static void rekeyEdges() {
        NoiseEngine x = Pair.atStep(3);
        for (int s : NO_SESSIONS) {
            CHECK.due("rekey(" + s + ", true)", x.rekey(s, true), false);
            CHECK.due("rekey(" + s + ", false)", x.rekey(s, false), false);
        }
        CHECK.due("rekey of one not begun", x.rekey(2, true), false);
        for (int step = 0; step < 3; step++) {
            NoiseEngine y = Pair.atStep(step);
            CHECK.due("rekey(0, true) at STEP " + step, y.rekey(0, true), false);
            CHECK.due("rekey(1, false) at STEP " + step, y.rekey(1, false), false);
            for (int i = step; i < 3; i++) {
                y.write(i % 2, 0);
                CHECK.due("the handshake goes on", y.read(1 - i % 2, y.turn()), 0);
            }
        }
        Check.clear(x);
        x.feed(1, 2, 3, 4, 5);
        CHECK.due("rekey(0, true)", x.rekey(0, true), true);
        CHECK.due("rekey leaves the tape", x.count(0), 20);
        CHECK.due("rekey leaves OUT", x.count(1), 32);
    }

    private static void rekeyEachWay() {
        for (int sender = 0; sender < 2; sender++) {
            int receiver = 1 - sender;
            NoiseEngine x = Pair.atStep(3);
            Check.clear(x);
            x.send(sender, 0);
            x.receive(receiver, x.turn());
            for (int times = 1; times <= 2; times++) {
                CHECK.due("rekey(" + sender + ", true)", x.rekey(sender, true), true);
                CHECK.due("rekey leaves n", x.state(sender, 3), times);
                x.send(sender, 0);
                CHECK.due("receive by the old key", x.receive(receiver, x.turn()), -1);
                CHECK.due("rekey(" + receiver + ", false)", x.rekey(receiver, false), true);
                CHECK.due("rekey leaves n", x.state(receiver, 4), times);
                CHECK.due("receive by the new key", x.receive(receiver, x.turn()), 0);
                x.hash(0);
            }
            Check.clear(x);
            x.send(receiver, 0);
            CHECK.due("the other way stays as it was", x.receive(sender, x.turn()), 0);
        }
    }
}
