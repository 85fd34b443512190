import java.util.function.Predicate;
import java.util.function.Supplier;
import java.util.function.ToIntFunction;

/** The document's sentences that name a boundary case, each with a test of its own. */
final class Boundary {
    private final Check check;
    private String promise = "";
    private int sentences = 0;

    Boundary(String name) {
        check = new Check(name);
    }

    /** Runs the test of a sentence; what it finds wrong is told with the promise and the sentence. */
    void sentence(String promise, String words, Runnable test) {
        this.promise = promise + " \"" + words + "\"";
        sentences++;
        int asked = check.asked();
        try {
            test.run();
        } catch (RuntimeException e) {
            // No call may throw; the other sentences are tested all the same.
            check.due(this.promise + " threw", e.toString(), "nothing");
        }
        check.due(this.promise + " is tested", check.asked() > asked, true);
    }

    void due(String call, long got, long want) {
        check.due(promise + ": " + call, got, want);
    }

    void due(String call, boolean got, boolean want) {
        check.due(promise + ": " + call, got, want);
    }

    void due(String call, String got, String want) {
        check.due(promise + ": " + call, got, want);
    }

    void due(String call, String got, byte[] want) {
        check.due(promise + ": " + call, got, Check.hex(want));
    }

    /** OUT is this. Where it is long it is turned and hashed, so that an object is not asked more than 512 times. */
    void dueOut(String call, NoiseEngine x, byte[] want) {
        due(call + ": bytes in OUT", x.count(1), want.length);
        if (want.length <= 200) {
            due(call + ": OUT", Check.outHex(x), want);
            return;
        }
        x.turn();
        x.hash(want.length);
        due(call + ": the hash of OUT", Check.outHex(x), Reference.sha256(want));
    }

    /** The call tells -2 or NONE, or answers a question, and has changed nothing. */
    void doesNothing(String call, Supplier<NoiseEngine> before, ToIntFunction<NoiseEngine> asked, int want) {
        due(call, asked.applyAsInt(before.get()), want);
        staysAll(call, before, () -> {
            NoiseEngine x = before.get();
            asked.applyAsInt(x);
            return x;
        });
    }

    /** The call answers false and has changed nothing. */
    void isFalse(String call, Supplier<NoiseEngine> before, Predicate<NoiseEngine> asked) {
        doesNothing(call, before, x -> asked.test(x) ? 1 : 0, 0);
    }

    private void staysAll(String call, Supplier<NoiseEngine> before, Supplier<NoiseEngine> after) {
        due(call + " leaves the tape", Sight.tape(after.get()), Sight.tape(before.get()));
        due(call + " refuses no message", Sight.refusals(after.get()), Sight.refusals(before.get()));
        due(call + " leaves all else", Sight.besidesTape(after), Sight.besidesTape(before));
    }

    /** The call tells NONE: the tape is empty then, all else stays. */
    void takesTapeAlone(String call, Supplier<NoiseEngine> before, ToIntFunction<NoiseEngine> asked) {
        String refusals = Sight.refusals(before.get());
        takesTape(call, before, asked, refusals);
    }

    /** The call tells NONE because session s refuses the message, the first one that it refuses. */
    void refusesFirst(String call, int s, Supplier<NoiseEngine> before, ToIntFunction<NoiseEngine> asked) {
        NoiseEngine x = before.get();
        due(call + ": nothing was refused before", x.state(s, 5), 0);
        StringBuilder refusals = new StringBuilder();
        for (int t = 0; t < 4; t++) {
            refusals.append(t == s ? 1 : x.state(t, 5)).append(' ');
        }
        takesTape(call, before, asked, refusals.toString());
    }

    private void takesTape(String call, Supplier<NoiseEngine> before, ToIntFunction<NoiseEngine> asked,
            String refusals) {
        NoiseEngine x = before.get();
        due(call, asked.applyAsInt(x), NoiseEngine.NONE);
        due(call + " empties the tape", x.count(0), 0);
        due(call + ": messages refused", Sight.refusals(x), refusals);
        due(call + " leaves all but the tape", Sight.besidesTape(() -> {
            NoiseEngine y = before.get();
            asked.applyAsInt(y);
            return y;
        }), Sight.besidesTape(before));
    }

    void end() {
        System.out.println(sentences + " sentences");
        check.end();
    }
}
