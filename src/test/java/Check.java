/** What the tests share: compares answers with those that are due, and moves bytes to and from an engine. */
final class Check {
    private final String name;
    private int asked = 0;
    private int wrong = 0;

    Check(String name) {
        this.name = name;
    }

    void due(String call, long got, long want) {
        compare(call, Long.toString(got), Long.toString(want));
    }

    void due(String call, boolean got, boolean want) {
        compare(call, Boolean.toString(got), Boolean.toString(want));
    }

    void due(String call, String got, String want) {
        compare(call, got, want);
    }

    private void compare(String call, String got, String want) {
        asked++;
        if (!got.equals(want)) {
            wrong++;
            System.out.println(name + ": " + call + " answered " + got + ", due is " + want);
        }
    }

    int asked() {
        return asked;
    }

    boolean allDue() {
        return wrong == 0;
    }

    /** Ends the program, with 1 if an answer was not as due. */
    void end() {
        System.out.println(name + ": " + asked + " answers, " + wrong + " not as due");
        System.exit(wrong == 0 && asked > 0 ? 0 : 1);
    }

    /** Puts bytes behind those on the tape, filled up with 0 to a whole number of feeds. */
    static void feed(NoiseEngine x, byte[] bytes) {
        for (int at = 0; at < bytes.length; at += 20) {
            x.feed(number(bytes, at), number(bytes, at + 4), number(bytes, at + 8),
                    number(bytes, at + 12), number(bytes, at + 16));
        }
    }

    static void feedHex(NoiseEngine x, String hex) {
        feed(x, bytes(hex));
    }

    static void setKey(NoiseEngine x, int k, String hex) {
        clear(x);
        feedHex(x, hex);
        x.key(k);
    }

    /** Empties the tape; OUT becomes the hash of nothing. */
    static void clear(NoiseEngine x) {
        x.hash(0);
    }

    static int number(byte[] bytes, int at) {
        int number = 0;
        for (int i = at; i < at + 4; i++) {
            number = number << 8 | (i < bytes.length ? bytes[i] & 0xff : 0);
        }
        return number;
    }

    static String outHex(NoiseEngine x) {
        return outHex(x, 0, x.count(1));
    }

    static String outHex(NoiseEngine x, int from, int to) {
        StringBuilder hex = new StringBuilder();
        for (int k = from; k < to; k++) {
            hex.append(byteHex(x.out(k)));
        }
        return hex.toString();
    }

    static String toldHex(NoiseEngine x, int s, int which) {
        StringBuilder hex = new StringBuilder();
        for (int k = 0; k < 32; k++) {
            hex.append(byteHex(x.told(s, which, k)));
        }
        return hex.toString();
    }

    private static String byteHex(int value) {
        return value < 0 || value > 255 ? "?" : String.format("%02x", value);
    }

    static byte[] bytes(String hex) {
        byte[] bytes = new byte[hex.length() / 2];
        for (int i = 0; i < bytes.length; i++) {
            bytes[i] = (byte) Integer.parseInt(hex.substring(2 * i, 2 * i + 2), 16);
        }
        return bytes;
    }

    static String hex(byte[] bytes) {
        StringBuilder hex = new StringBuilder();
        for (byte b : bytes) {
            hex.append(byteHex(b & 0xff));
        }
        return hex.toString();
    }

    static String asciiHex(String text) {
        StringBuilder hex = new StringBuilder();
        for (int i = 0; i < text.length(); i++) {
            hex.append(byteHex(text.charAt(i)));
        }
        return hex.toString();
    }
}
