/** All promises: long mixed runs, each answer held against the plain model of the document. */
public final class ModelTest {
    private static final int RUNS = 400, CALLS = 512;
    private static final int[] EDGES = {-2, -1, 8, 23, 24, 25, 40, 41, 100, 1000, Integer.MAX_VALUE, Integer.MIN_VALUE};
    private static final String[] SORTS = {"salt", "fish", "stone", "wool", "whale"};
    private static final String SIGNS = "aZ;; \n0179@\u00ff";

    private final Checks c = new Checks("Model");
    private YesterdayScale x;
    private Model m;
    private int run;
    private long seed;

    public static void main(String[] args) {
        int runs = args.length > 0 ? Integer.parseInt(args[0]) : RUNS;
        int first = args.length > 1 ? Integer.parseInt(args[1]) : 0;
        ModelTest test = new ModelTest();
        for (int run = first; run < first + runs; run++) {
            test.run(run);
            test.foretell(run);
        }
        test.c.end();
    }

    /** The same numbers in every run of the test. */
    private int upTo(int bound) {
        seed = seed * 6364136223846793005L + 1442695040888963407L;
        return (int) ((seed >>> 33) % bound);
    }

    private int number(int usual) {
        return upTo(24) == 0 ? EDGES[upTo(EDGES.length)] : upTo(usual);
    }

    private void due(String call, int got, int want) {
        c.due("run " + run + " " + call, got, want);
    }

    private void run(int number) {
        run = number;
        seed = number;
        x = new YesterdayScale();
        m = new Model();
        int most = 1 + upTo(4);
        for (int calls = 0; calls < CALLS; calls++) {
            // Three or four THINGS have many WORLDS, and the model is slow.
            int dear = most > 2 ? 40 : 3;
            int what = upTo(31);
            if (what >= 14 && what <= 18 && upTo(dear) != 0) {
                what = upTo(14);
            }
            if (what < 14) {
                plain(what, most);
            } else {
                telling(what);
            }
        }
    }

    /** One PORT with a row that tells of it, all that is dear asked once, as mixed runs ask for it too seldom. */
    private void foretell(int number) {
        run = number;
        seed = ~number;
        x = new YesterdayScale();
        m = new Model();
        int things = 1 + number % 4;
        text(law() + things(things) + days(things, upTo(2 + things)));
        int more = upTo(8) == 0 ? 24 : upTo(3);
        for (int i = 0; i < more; i++) {
            int set = upTo(1 << things);
            due("day", x.day(set), m.day(set));
        }
        for (int k = -1; k < 3; k++) {
            due("soon " + k, x.soon(k), m.soon(k));
        }
        tellSome(0);
        due("fits", x.fits(0, -1, 0), m.fits(0, -1, 0));
        for (int thing = 0; thing < things; thing++) {
            int w = upTo(8);
            due("fits " + thing, x.fits(0, thing, w), m.fits(0, thing, w));
            due("sure " + thing, x.sure(0, thing), m.sure(0, thing));
        }
        int day = upTo(m.count(2) + 1);
        due("gap " + day, x.gap(0, day), m.gap(0, day));
        due("wrong 0", x.wrong(0, 0), m.wrong(0, 0));
        due("wrong 1", x.wrong(0, 1), m.wrong(0, 1));
    }

    private void text(String text) {
        for (int i = 0; i < text.length(); i += 8) {
            int n = Math.min(8, text.length() - i);
            long w = upTo(1 << 30);
            for (int k = 0; k < n; k++) {
                w = w << 8 | text.charAt(i + k);
            }
            due("feed", x.feed(w, n), m.feed(w, n));
        }
        due("port", x.port(), m.port());
        due("fault", x.fault(), m.fault());
        due("count", x.count(6), m.count(6));
    }

    private String law() {
        int top = upTo(3) == 0 ? 2 + upTo(9) : 2 + upTo(199);
        return "law " + upTo(4) + " " + upTo(2) + " " + top + ";";
    }

    private String things(int many) {
        StringBuilder text = new StringBuilder();
        for (int i = 0; i < many; i++) {
            text.append("thing ").append(SORTS[upTo(5)]).append(' ').append(upTo(8)).append(';');
        }
        return text.toString();
    }

    private String days(int things, int many) {
        StringBuilder text = new StringBuilder();
        for (int i = 0; i < many; i++) {
            text.append("day ").append(upTo(1 << things)).append(';');
        }
        return text.toString();
    }

    /** A text for the tape that is often whole, and often has a FAULT. */
    private String made(int most) {
        int things = upTo(most + 1);
        int days = upTo(8) == 0 ? 12 + upTo(2) : upTo(7);
        StringBuilder text = new StringBuilder(law() + things(things) + days(things, days));
        if (upTo(3) == 0) {
            int at = upTo(text.length());
            text.setCharAt(at, SIGNS.charAt(upTo(SIGNS.length())));
        }
        if (upTo(8) == 0) {
            text.setLength(upTo(text.length()));
        }
        if (upTo(8) == 0) {
            text.insert(upTo(text.length() + 1), "thing salt 1;day 1;".substring(upTo(13)));
        }
        return text.toString();
    }

    private void plain(int what, int most) {
        int a = number(8);
        int b = number(8);
        switch (what) {
            case 0 -> {
                if (upTo(4) == 0 || m.count(5) == 0) text(made(most));
            }
            case 1, 2 -> {
                int set = number(1 << m.count(1));
                due("next " + set, x.next(set), m.next(set));
                due("day " + set, x.day(set), m.day(set));
            }
            case 3 -> {
                if (upTo(2) == 0) due("undo", x.undo(), m.undo());
            }
            case 4 -> {
                int n = number(41);
                int lane = number(3);
                due("row", x.row(a, lane, n), m.row(a, lane, n));
            }
            case 5 -> {
                int v = upTo(2) == 0 ? upTo(70000) - 35000 : number(300);
                due("set", x.set(a, b, v), m.set(a, b, v));
            }
            case 6 -> {
                int i = number(10);
                int j = number(10);
                int n = number(10);
                due("copy", x.copy(a, i, b, j, n), m.copy(a, i, b, j, n));
            }
            case 7 -> {
                if (upTo(4) == 0) due("drop", x.drop(a), m.drop(a));
            }
            case 8 -> {
                int day = number(24);
                due("shown", x.shown(day, b & 3), m.shown(day, b & 3));
                due("shown", x.shown(a, b), m.shown(a, b));
            }
            case 9 -> {
                int day = number(101) - 1;
                due("heavy", x.heavy(a & 3, day), m.heavy(a & 3, day));
                due("heavy", x.heavy(a, b), m.heavy(a, b));
            }
            case 10 -> {
                int k = number(2);
                due("image", x.image(k), m.image(k));
            }
            case 11 -> {
                int k = number(2);
                if (upTo(3) == 0) due("restore", x.restore(k), m.restore(k));
            }
            case 12 -> {
                due("count", x.count(b), m.count(b));
                due("status", x.status(), m.status());
            }
            default -> {
                int n = number(9);
                if (upTo(8) == 0) due("feed", x.feed(seed, n), m.feed(seed, n));
            }
        }
    }

    /** A ROW that tells what was truly SHOWN, with gaps and a few false DAYS. */
    private void tellSome(int row) {
        int days = m.count(2);
        int n = Math.min(40, days + upTo(3));
        int lane = 1 + upTo(2);
        int gaps = upTo(5);
        int lies = upTo(3);
        due("row", x.row(row, lane, n), m.row(row, lane, n));
        for (int i = 0; i < n; i++) {
            int v = i < days ? m.shown(i, 2) : upTo(9) - 4;
            if (upTo(5) < gaps) {
                v = -1;
            } else if (upTo(6) < lies) {
                v = number(12);
            }
            due("set", x.set(row, i, v), m.set(row, i, v));
        }
    }

    private void telling(int what) {
        int row = number(8);
        int thing = number(4);
        int day = number(Math.max(1, m.count(2)));
        if (row >= 0 && row < 8 && upTo(8) != 0 && what <= 19) {
            tellSome(row);
        }
        switch (what) {
            case 14 -> {
                int w = number(8);
                due("fits", x.fits(row, thing, w), m.fits(row, thing, w));
                due("fits -1", x.fits(row, -1, w), m.fits(row, -1, w));
            }
            case 15 -> due("sure", x.sure(row, thing), m.sure(row, thing));
            case 16 -> due("gap", x.gap(row, day), m.gap(row, day));
            case 17 -> {
                int which = number(2);
                due("wrong", x.wrong(row, which), m.wrong(row, which));
            }
            case 18 -> {
                int k = number(4) - 1;
                due("soon " + k, x.soon(k), m.soon(k));
            }
            case 19, 20, 21 -> due("laws", x.laws(row), m.laws(row));
            case 22, 23 -> due("error", x.error(day), m.error(day));
            case 24, 25 -> due("sold", x.sold(thing, day), m.sold(thing, day));
            case 26 -> due("kind", x.kind(thing), m.kind(thing));
            case 27 -> {
                int kind = number(6);
                due("as", x.as(thing, kind), m.as(thing, kind));
                due("status", x.status(), m.status());
            }
            case 28 -> {
                int ask = number(2);
                due("ask", x.ask(thing, ask), m.ask(thing, ask));
            }
            case 29 -> {
                int i = number(8);
                due("trace", x.trace(i), m.trace(i));
            }
            default -> due("status", x.status(), m.status());
        }
    }
}
