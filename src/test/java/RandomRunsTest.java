import java.util.Random;

/** Random runs of 512 calls, each answer compared with that of the ReferenceEngine. */
public final class RandomRunsTest {
    private static final Check CHECK = new Check("RandomRunsTest");
    private static final int CALLS = 512;
    private static final int RUNS = 120;
    private static final int[] FAR = {Integer.MIN_VALUE, Integer.MAX_VALUE, -2, 1001, 1 << 16};

    private final Random random;
    private final int run;
    private final NoiseEngine x = new NoiseEngine();
    private final ReferenceEngine y = new ReferenceEngine();
    private int calls = 0;

    private RandomRunsTest(int run) {
        this.run = run;
        random = new Random(run);
    }

    public static void main(String[] args) {
        for (int run = 0; run < RUNS && CHECK.allDue(); run++) {
            new RandomRunsTest(run).play();
        }
        CHECK.end();
    }

    private void play() {
        for (int k = 0; k < 8; k++) {
            feed();
            feed();
            key(k);
        }
        while (calls < CALLS && CHECK.allDue()) {
            int choice = random.nextInt(10);
            if (choice < 5) {
                talk();
            } else if (choice < 8) {
                look();
            } else {
                anything();
            }
        }
    }

    /** A step that two sessions would really make, now and then spoilt. */
    private void talk() {
        int pair = random.nextInt(2);
        int a = pair + 2 * random.nextInt(2);
        int b = a ^ 2;
        if (y.state(a, 0) < 0 || y.state(b, 0) < 0 || random.nextInt(25) == 0) {
            boolean initiator = random.nextBoolean();
            start(a, initiator, random.nextInt(8), random.nextInt(8), 0);
            start(b, random.nextInt(20) == 0 ? initiator : !initiator, random.nextInt(8), random.nextInt(8), 0);
            return;
        }
        boolean over = y.state(a, 0) == 3;
        if (random.nextInt(3) == 0) {
            feed();
        }
        int n = random.nextInt(4) == 0 ? size() : Math.min(random.nextInt(21), y.count(0));
        int size = over ? send(a, n) : write(a, n);
        if (size < 0) {
            return;
        }
        if (over && random.nextInt(4) == 0) {
            boolean sending = random.nextBoolean();
            rekey(sending ? a : b, sending);
            if (random.nextInt(3) > 0) {
                rekey(sending ? b : a, !sending);
            }
        }
        turn();
        if (random.nextInt(5) == 0) {
            patch(random.nextInt(size), random.nextInt(256));
            pass(over, b, size);
            turn();
        }
        pass(over, b, random.nextInt(8) == 0 ? random.nextInt(size + 1) : size);
    }

    private void pass(boolean over, int s, int n) {
        if (over) {
            receive(s, n);
        } else {
            read(s, n);
        }
    }

    private void look() {
        int s = session();
        switch (random.nextInt(5)) {
            case 0:
                int what = near(6);
                due("state(" + s + ", " + what + ")", x.state(s, what), y.state(s, what));
                break;
            case 1:
                int which = near(3);
                int k = near(32);
                due("told(" + s + ", " + which + ", " + k + ")", x.told(s, which, k), y.told(s, which, k));
                break;
            case 2:
                int kind = near(2);
                due("count(" + kind + ")", x.count(kind), y.count(kind));
                break;
            default:
                int at = near(y.count(1));
                due("out(" + at + ")", x.out(at), y.out(at));
        }
    }

    private void anything() {
        switch (random.nextInt(16)) {
            case 0:
            case 1:
                feed();
                break;
            case 2:
                turn();
                break;
            case 3:
                patch(near(y.count(0)), random.nextInt());
                break;
            case 4:
                key(near(8));
                break;
            case 5:
                int k = near(8);
                due("take(" + k + ")", x.take(k), y.take(k));
                break;
            case 6:
                curve();
                break;
            case 7:
                int n = size();
                due("hash(" + n + ")", x.hash(n), y.hash(n));
                break;
            case 8:
                mac();
                break;
            case 9:
                sealAndOpen();
                break;
            case 10:
                open(near(8), random.nextInt(3), size(), size());
                break;
            case 11:
                start(session(), random.nextBoolean(), near(8), near(8), size());
                break;
            default:
                anySession(random.nextInt(5), session());
        }
    }

    private void anySession(int choice, int s) {
        switch (choice) {
            case 0:
                write(s, size());
                break;
            case 1:
                read(s, size());
                break;
            case 2:
                send(s, size());
                break;
            case 3:
                receive(s, size());
                break;
            default:
                rekey(s, random.nextBoolean());
        }
    }

    /** 0 to limit - 1, sometimes just beside, rarely far away. */
    private int near(int limit) {
        int choice = random.nextInt(20);
        if (choice == 0) {
            return FAR[random.nextInt(FAR.length)];
        }
        if (choice < 3 || limit < 1) {
            return choice % 2 == 0 ? -1 : limit;
        }
        return random.nextInt(limit);
    }

    private int session() {
        return near(4);
    }

    /** A number of bytes, mostly such as are on the tape. */
    private int size() {
        switch (random.nextInt(4)) {
            case 0:
                return y.count(0);
            case 1:
                return y.count(0) + 1 - random.nextInt(3);
            default:
                return near(y.count(0) + 1);
        }
    }

    private void feed() {
        int[] numbers = new int[5];
        boolean plain = random.nextInt(4) == 0;
        int same = random.nextInt(3) - 1;
        for (int i = 0; i < 5; i++) {
            numbers[i] = plain ? same : random.nextInt();
        }
        due("feed", x.feed(numbers[0], numbers[1], numbers[2], numbers[3], numbers[4]), y.feed(numbers));
    }

    private void turn() {
        due("turn()", x.turn(), y.turn());
    }

    private void patch(int k, int v) {
        due("patch(" + k + ", " + v + ")", x.patch(k, v), y.patch(k, v));
    }

    private void key(int k) {
        due("key(" + k + ")", x.key(k), y.key(k));
    }

    private void curve() {
        int k = near(8);
        boolean own = random.nextBoolean();
        due("curve(" + k + ", " + own + ")", x.curve(k, own), y.curve(k, own));
    }

    private void mac() {
        int k = near(8);
        int n = size();
        due("mac(" + k + ", " + n + ")", x.mac(k, n), y.mac(k, n));
    }

    private void sealAndOpen() {
        int k = near(8);
        long n = random.nextInt(3) == 0 ? random.nextLong() : random.nextInt(3) - 1;
        for (int i = random.nextInt(12); i > 0; i--) {
            feed();
        }
        int a = random.nextInt(3) == 0 ? 0 : size();
        int b = size() - (random.nextInt(4) == 0 ? 0 : a);
        String call = "seal(" + k + ", " + n + ", " + a + ", " + b + ")";
        int size = due(call, x.seal(k, n, a, b), y.seal(k, n, a, b));
        turn();
        open(k, n, a == 0 ? 0 : near(4), random.nextInt(6) == 0 ? size() : size);
    }

    private void open(int k, long n, int a, int b) {
        due("open(" + k + ", " + n + ", " + a + ", " + b + ")", x.open(k, n, a, b), y.open(k, n, a, b));
    }

    private void start(int s, boolean initiator, int fixed, int passing, int n) {
        due("start(" + s + ", " + initiator + ", " + fixed + ", " + passing + ", " + n + ")",
                x.start(s, initiator, fixed, passing, n), y.start(s, initiator, fixed, passing, n));
    }

    private int write(int s, int n) {
        return due("write(" + s + ", " + n + ")", x.write(s, n), y.write(s, n));
    }

    private void read(int s, int n) {
        due("read(" + s + ", " + n + ")", x.read(s, n), y.read(s, n));
    }

    private int send(int s, int n) {
        return due("send(" + s + ", " + n + ")", x.send(s, n), y.send(s, n));
    }

    private void receive(int s, int n) {
        due("receive(" + s + ", " + n + ")", x.receive(s, n), y.receive(s, n));
    }

    private void rekey(int s, boolean sending) {
        due("rekey(" + s + ", " + sending + ")", x.rekey(s, sending), y.rekey(s, sending));
    }

    private void due(String call, boolean got, boolean want) {
        due(call, got ? 1 : 0, want ? 1 : 0);
    }

    /** All that can be seen is compared too, by more than the document's 512 calls: this class allows that. */
    private int due(String call, int got, int want) {
        calls++;
        String place = "run " + run + ", call " + calls + ": " + call;
        CHECK.due(place, got, want);
        same(place + ", then count(0)", x.count(0), y.count(0));
        same(place + ", then count(1)", x.count(1), y.count(1));
        for (int k = 0; k < y.count(1); k++) {
            same(place + ", then out", x.out(k), y.out(k));
        }
        for (int s = 0; s < 4; s++) {
            for (int what = 0; what < 6; what++) {
                same(place + ", then state", x.state(s, what), y.state(s, what));
            }
            for (int k = 0; k < 96; k++) {
                same(place + ", then told", x.told(s, k / 32, k % 32), y.told(s, k / 32, k % 32));
            }
        }
        return want;
    }

    private static void same(String place, int got, int want) {
        if (got != want) {
            CHECK.due(place, got, want);
        }
    }
}
