/** Counts answers that are not as due, and ends a test. */
final class Checks {
    static final int NONE = -1000000, BAD = -1000001, STATE = -1000002, FULL = -1000003;
    static final int NULL = -1000011, PLACE = -1000012, KIND = -1000013, SIZE = -1000014, STORE = -1000015;

    private final String name;
    private int asked;
    private int wrong;

    Checks(String name) {
        this.name = name;
    }

    void due(String call, long got, long want) {
        asked++;
        if (got != want) {
            wrong++;
            System.out.println(name + ": " + call + " answered " + got + ", due is " + want);
        }
    }

    void hold(String what, boolean holds) {
        due(what, holds ? 1 : 0, 1);
    }

    void end() {
        System.out.println(name + ": " + asked + " answers, " + wrong + " not as due");
        if (wrong != 0) {
            System.exit(1);
        }
    }

    /** Feeds a text, eight bytes a call; its signs are bytes. */
    static void feed(YesterdayScale scale, String text) {
        for (int at = 0; at < text.length(); at += 8) {
            int n = Math.min(8, text.length() - at);
            long w = 0;
            for (int i = 0; i < n; i++) {
                w = w << 8 | text.charAt(at + i) & 255;
            }
            scale.feed(w, n);
        }
    }

    static YesterdayScale with(String text) {
        YesterdayScale scale = new YesterdayScale();
        feed(scale, text);
        if (scale.port() < 0) {
            throw new IllegalStateException("no port: " + text);
        }
        return scale;
    }

    /** A ROW of ints that holds just these. */
    static void tell(YesterdayScale scale, int row, int... items) {
        scale.row(row, 2, items.length);
        for (int i = 0; i < items.length; i++) {
            scale.set(row, i, items[i]);
        }
    }
}
