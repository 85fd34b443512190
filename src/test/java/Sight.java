import java.util.function.Function;
import java.util.function.Supplier;

/** What can be seen of an engine. Looking spoils it, so each look is at an engine made anew. */
final class Sight {
    private static final int[] SOME_BYTES = {0, 13, 31};

    private Sight() {
    }

    /** All but the tape and the numbers of refused messages, which a call that tells NONE may change. */
    static String besidesTape(Supplier<NoiseEngine> made) {
        StringBuilder seen = new StringBuilder();
        look(seen, "figures", made, Sight::figures);
        look(seen, "OUT", made, Sight::out);
        look(seen, "KEYS", made, Sight::keys);
        look(seen, "talk", made, Sight::talk);
        return seen.toString();
    }

    private static void look(StringBuilder seen, String name, Supplier<NoiseEngine> made,
            Function<NoiseEngine, String> kind) {
        seen.append(name).append(' ').append(kind.apply(made.get())).append("; ");
    }

    static String tape(NoiseEngine x) {
        int n = x.count(0);
        x.hash(n);
        return n + " bytes " + Check.outHex(x);
    }

    static String out(NoiseEngine x) {
        int n = x.count(1);
        x.turn();
        return n + " bytes, turned to " + tape(x);
    }

    /** How many messages each session has refused. */
    static String refusals(NoiseEngine x) {
        StringBuilder seen = new StringBuilder();
        for (int s = 0; s < 4; s++) {
            seen.append(x.state(s, 5)).append(' ');
        }
        return seen.toString();
    }

    /** What the sessions tell of themselves. */
    static String figures(NoiseEngine x) {
        StringBuilder seen = new StringBuilder();
        for (int s = 0; s < 4; s++) {
            for (int what = 0; what < 5; what++) {
                seen.append(x.state(s, what)).append(' ');
            }
            for (int which = 0; which < 3; which++) {
                for (int k : SOME_BYTES) {
                    seen.append(x.told(s, which, k)).append(' ');
                }
            }
        }
        return seen.toString();
    }

    /** The KEYS, by what they authenticate. */
    static String keys(NoiseEngine x) {
        StringBuilder seen = new StringBuilder();
        for (int k = 0; k < 8; k++) {
            x.mac(k, 0);
            seen.append(Check.outHex(x)).append(' ');
        }
        return seen.toString();
    }

    /** What the sessions keep to themselves, by what they say to each other from now on. */
    static String talk(NoiseEngine x) {
        StringBuilder seen = new StringBuilder();
        for (int round = 0; round < 3; round++) {
            for (int s = 0; s < 4; s++) {
                hand(x, seen, s, x.write(s, 0), false);
                hand(x, seen, s, x.send(s, 0), true);
            }
        }
        return seen.toString();
    }

    private static void hand(NoiseEngine x, StringBuilder seen, int from, int size, boolean over) {
        seen.append(size).append(' ');
        if (size < 0) {
            return;
        }
        seen.append(x.out(0)).append(' ').append(x.out(size - 16)).append(' ').append(x.out(size - 1)).append(' ');
        for (int s = 0; s < 4; s++) {
            if (s != from && x.state(s, 0) >= 0) {
                int n = x.turn();
                seen.append(over ? x.receive(s, n) : x.read(s, n)).append(' ');
            }
        }
    }
}
