import java.util.function.Supplier;
import java.util.function.ToIntFunction;

/** What the terms say of numbers, refusals and findings. */
final class RefusalSentences {
    private static final String TEXT = "law 2 1 90;thing salt 3;thing fish 6;thing stone 2;day 1;day 6;";
    private static final int[] FAR = {Integer.MIN_VALUE, -1000, -2, -1, 0, 1, 2, 3, 7, 8, 24, 40, 41, 400, 401,
        Integer.MAX_VALUE};

    private RefusalSentences() {
    }

    static void all(Sentences s) {
        numbers(s);
        order(s);
        bad(s);
        findings(s);
        never(s);
        nothingChanges(s);
    }

    private static void numbers(Sentences s) {
        YesterdayScale x = Checks.with(TEXT);
        s.says(0, "Numbers go from 0 on.");
        s.due("row 0", x.row(0, 0, 1), 1);
        s.due("item 0", x.set(0, 0, 5), 5);
        s.due("day 0", x.shown(0, 0), 1);
        s.due("thing 0", x.as(0, 0), 0);
        s.due("image 0", x.image(0), 1);
        s.says(0, "All that is divided is cut towards 0.");
        s.due("5 by 3", x.heavy(1, 5), 6 - 1);
        s.due("3 by 2", x.shown(1, 2), 6 + 2);
        s.due("7 by 4", Checks.with("law 0 0 2;thing wool 1;").heavy(0, 7), 1 + 1);
        s.says(0, "Sets are bits.");
        s.due("things 1 and 2", x.shown(1, 1), 6 + 2);
        s.due("things 0 and 2", x.day(5), 3 + 2);
        s.due("no thing 3", x.day(8), Checks.BAD);
    }

    private static void order(Sentences s) {
        YesterdayScale none = new YesterdayScale();
        s.says(0, "Refusals are answers, the first of these that fits");
        s.due("image: BAD ahead of STATE", none.image(2), Checks.BAD);
        s.due("image: STATE", none.image(1), Checks.STATE);
        s.due("restore: BAD ahead of STATE", none.restore(-1), Checks.BAD);
        s.due("restore: STATE", none.restore(1), Checks.STATE);
        Checks.feed(none, " ".repeat(400));
        s.due("feed: BAD ahead of FULL", none.feed(0, 9), Checks.BAD);
        s.due("feed: FULL", none.feed(0, 8), Checks.FULL);
        YesterdayScale full = Checks.with(TEXT);
        for (int i = 2; i < 24; i++) {
            full.day(0);
        }
        s.due("day: BAD ahead of FULL", full.day(8), Checks.BAD);
        s.due("day: FULL", full.day(7), Checks.FULL);
        s.says(0, "but as told:");
        s.due("day: STATE ahead of BAD", none.day(-1), Checks.STATE);
        s.due("fits: a BAD behind findings", badItemBehindFinding(), Checks.NULL);
        s.says(0, "STATE (as told), FULL (as told), then FINDINGS");
        s.due("fits: STATE ahead of NULL", none.fits(0, -1, 0), Checks.STATE);
        s.due("sure: STATE ahead of NULL", none.sure(0, 0), Checks.STATE);
        s.due("laws: STATE ahead of NULL", none.laws(0), Checks.STATE);
        s.due("set: BAD ahead of NULL", none.set(8, 0, 0), Checks.BAD);
        s.due("copy: BAD ahead of NULL", none.copy(0, 0, 8, 0, 0), Checks.BAD);
        s.due("row: BAD ahead of SIZE", none.row(0, 3, -1), Checks.BAD);
        s.due("as: BAD ahead of KIND", full.as(0, 6), Checks.BAD);
    }

    private static int badItemBehindFinding() {
        YesterdayScale x = Checks.with(TEXT);
        Checks.tell(x, 1, -2, -2);
        x.drop(1);
        return x.fits(1, -1, 0);
    }

    private static void bad(Sentences s) {
        YesterdayScale x = Checks.with(TEXT);
        s.says(0, "BAD (a number is not as told; there is no such thing),");
        s.due("a number that is not as told", x.feed(0, 0), Checks.BAD);
        s.due("no such row", x.drop(8), Checks.BAD);
        s.due("no such thing", x.kind(3), Checks.BAD);
        s.due("no such day", x.shown(2, 0), Checks.BAD);
        s.due("no such image", x.image(2), Checks.BAD);
        s.due("no such kind", x.as(0, -1), Checks.BAD);
        s.due("no such ask", x.ask(0, 2), Checks.BAD);
        s.due("nothing to count", x.count(7), Checks.BAD);
    }

    private static void findings(Sentences s) {
        YesterdayScale x = Checks.with(TEXT);
        x.row(0, 2, 3);
        x.row(1, 1, 3);
        s.says(0, ", of several the first in time:");
        s.due("NULL ahead of STORE and PLACE", x.copy(0, -1, 2, 9, -1), Checks.NULL);
        s.due("NULL of the first, too", x.copy(2, -1, 0, 9, -1), Checks.NULL);
        s.due("STORE ahead of PLACE", x.copy(0, -1, 1, 9, -1), Checks.STORE);
        s.due("NULL ahead of PLACE", x.set(2, -1, 0), Checks.NULL);
        s.says(0, "-1000010 less 1 NULL (a ROW that is missing)");
        s.due("drop", x.drop(2), -1000011);
        s.due("status", x.status(), 1);
        s.says(0, "2 PLACE (no such place of a ROW)");
        s.due("set", x.set(0, 3, 0), -1000012);
        s.due("status", x.status(), 2);
        s.says(0, "3 KIND (a THING that is not that)");
        s.due("as", x.as(0, 4), -1000013);
        s.due("status", x.status(), 3);
        s.says(0, "4 SIZE (fewer than none)");
        s.due("row", x.row(0, 0, -1), -1000014);
        s.due("status", x.status(), 4);
        s.says(0, "5 STORE (ROWS of two LANES).");
        s.due("copy", x.copy(0, 0, 1, 0, 1), -1000015);
        s.due("status", x.status(), 5);
    }

    /** Numbers far off, in a new object, one with a PORT, and one in which all is full: none throws. */
    private static void never(Sentences s) {
        s.says(0, "Refusals are answers");
        int thrown = 0;
        for (int state = 0; state < 3; state++) {
            for (int a : FAR) {
                for (int b : FAR) {
                    thrown += farCalls(state, a, b) ? 0 : 1;
                }
            }
        }
        s.due("calls that threw", thrown, 0);
    }

    private static boolean farCalls(int state, int a, int b) {
        YesterdayScale x = state == 0 ? new YesterdayScale() : Checks.with(TEXT);
        if (state == 2) {
            fill(x);
        }
        try {
            for (int c : FAR) {
                x.row(a, b, c);
                x.set(a, b, c);
                x.copy(a, b, a, c, b);
                x.copy(0, a, 1, b, c);
                x.fits(a, b, c);
            }
            x.fits(0, a, b);
            x.sure(a, b);
            x.sure(0, a);
            x.gap(a, b);
            x.gap(0, a);
            x.wrong(a, b);
            x.wrong(0, a);
            x.laws(a);
            x.shown(a, b);
            x.heavy(a, b);
            x.sold(a, b);
            x.as(a, b);
            x.ask(a, b);
            x.next(a);
            x.day(a);
            x.soon(a);
            x.error(a);
            x.image(a);
            x.restore(a);
            x.kind(a);
            x.trace(a);
            x.count(a);
            x.drop(a);
            x.feed(b, a);
            x.port();
            x.undo();
            return true;
        } catch (RuntimeException e) {
            System.out.println("threw by " + a + ", " + b + " in state " + state + ": " + e);
            return false;
        }
    }

    private static void fill(YesterdayScale x) {
        Checks.feed(x, "a".repeat(400));
        for (int i = 2; i < 24; i++) {
            x.day(i & 7);
        }
        for (int i = 0; i < 8; i++) {
            x.row(i, i % 3, 40);
        }
        x.image(0);
        x.image(1);
    }

    private static void nothingChanges(Sentences s) {
        s.says(0, "What is refused, or found, changes nothing but status().");
        Supplier<YesterdayScale> bare = RefusalSentences::bare;
        Supplier<YesterdayScale> rich = RefusalSentences::rich;
        Supplier<YesterdayScale> full = RefusalSentences::full;
        stays(s, bare, Checks.STATE, x -> x.day(0), x -> x.undo(), x -> x.next(0), x -> x.fits(0, -1, 0),
            x -> x.sure(0, 0), x -> x.gap(0, 0), x -> x.wrong(0, 0), x -> x.soon(-1), x -> x.laws(0),
            x -> x.image(0), x -> x.restore(0));
        stays(s, bare, Checks.BAD, x -> x.shown(0, 0), x -> x.heavy(0, 0), x -> x.error(0), x -> x.sold(0, 1),
            x -> x.image(2), x -> x.restore(2), x -> x.kind(0), x -> x.as(0, 0), x -> x.ask(0, 0));
        stays(s, rich, Checks.BAD, x -> x.row(8, 0, 1), x -> x.row(0, 3, 1), x -> x.row(0, 0, 41),
            x -> x.set(8, 0, 0), x -> x.copy(0, 0, 8, 0, 1), x -> x.copy(8, 0, 0, 0, 1), x -> x.drop(8),
            x -> x.feed(0, 0), x -> x.feed(0, 9), x -> x.day(8), x -> x.day(-1), x -> x.shown(9, 0),
            x -> x.shown(0, 4), x -> x.heavy(3, 0), x -> x.heavy(0, 100), x -> x.next(8));
        stays(s, rich, Checks.BAD, x -> x.fits(0, 3, 0), x -> x.fits(0, -1, 8), x -> x.fits(8, -1, 0),
            x -> x.sure(0, 3), x -> x.gap(0, 9), x -> x.wrong(0, 2), x -> x.soon(-2), x -> x.laws(8),
            x -> x.error(9), x -> x.sold(0, 0), x -> x.image(2), x -> x.restore(2), x -> x.kind(3),
            x -> x.as(0, 6), x -> x.ask(0, 2), x -> x.ask(3, 0), x -> x.count(7), x -> x.fits(2, -1, 0));
        stays(s, rich, Checks.STATE, x -> x.restore(1));
        stays(s, full, Checks.FULL, x -> x.feed('a', 1), x -> x.feed(0, 8), x -> x.day(1));
        stays(s, rich, Checks.NULL, x -> x.set(3, 0, 0), x -> x.copy(0, 0, 3, 0, 1), x -> x.copy(3, 0, 0, 0, 1),
            x -> x.drop(3), x -> x.fits(3, -1, 0), x -> x.sure(3, 0), x -> x.gap(3, 0), x -> x.wrong(3, 0),
            x -> x.laws(3));
        stays(s, rich, Checks.PLACE, x -> x.set(0, 3, 0), x -> x.set(0, -1, 0), x -> x.copy(0, 2, 0, 0, 2),
            x -> x.copy(0, 0, 0, 2, 2), x -> x.copy(0, 0, 0, 0, -1), x -> x.fits(1, -1, 0), x -> x.sure(1, 0),
            x -> x.gap(1, 0), x -> x.wrong(1, 0), x -> x.laws(1));
        stays(s, rich, Checks.KIND, x -> x.as(0, 2));
        stays(s, rich, Checks.SIZE, x -> x.row(0, 0, -1), x -> x.row(3, 0, -1));
        stays(s, rich, Checks.STORE, x -> x.copy(0, 0, 1, 0, 1));
        for (int k = 0; k < 2; k++) {
            s.due("what was refused left image " + k, imageStays(k), 1);
        }
    }

    /** Beside a twin to which the call was not made, nothing differs but what a FINDING leaves in status(). */
    @SafeVarargs
    private static void stays(Sentences s, Supplier<YesterdayScale> made, int due, ToIntFunction<YesterdayScale>... calls) {
        for (int i = 0; i < calls.length; i++) {
            YesterdayScale refused = made.get();
            YesterdayScale twin = made.get();
            String name = due + " call " + i;
            s.due(name, calls[i].applyAsInt(refused), due);
            s.due(name + " status", refused.status(), due < -1000010 ? -1000010 - due : twin.status());
            s.due(name + " all else", Probe.of(refused).equals(Probe.of(twin)) ? 1 : 0, 1);
        }
    }

    private static int imageStays(int k) {
        YesterdayScale x = Checks.with(TEXT);
        x.image(k);
        x.day(8);
        x.undo();
        Checks.feed(x, "law 9");
        x.port();
        x.image(2);
        return x.restore(k) == 1 && x.count(2) == 2 ? 1 : 0;
    }

    private static YesterdayScale bare() {
        YesterdayScale x = new YesterdayScale();
        Checks.tell(x, 0, 4, 5, 6);
        x.row(1, 0, 1);
        x.copy(0, 0, 1, 0, 1);
        Checks.feed(x, "law 1 0 30;");
        return x;
    }

    private static YesterdayScale rich() {
        YesterdayScale x = Checks.with(TEXT);
        x.image(0);
        x.day(3);
        Checks.feed(x, "law 0 0 1;");
        x.port();
        Checks.tell(x, 0, 4, 5, 6);
        x.row(1, 0, 2);
        x.set(1, 1, 7);
        Checks.tell(x, 2, 3, -2, 3);
        x.ask(1, 0);
        Checks.feed(x, "law 1 0 30;");
        x.as(2, 1);
        return x;
    }

    private static YesterdayScale full() {
        YesterdayScale x = rich();
        for (int i = 3; i < 24; i++) {
            x.day(i & 7);
        }
        Checks.feed(x, " ".repeat(400 - x.count(6)));
        return x;
    }
}
