import java.util.function.ToIntBiFunction;
import java.util.function.ToIntFunction;

/** Terms of WORLDS, GAP, FALSE, SOON, WHICH LAW, ERROR and SOLD; promises 14 to 21. */
final class ForetoldSentences {
    /** By a and b DAYS 0 to 2 SHOW a, 2a + b, a + 2b. */
    private static final String PAIR = "law 1 0 100;thing salt 3;thing salt 2;day 1;day 3;day 2;";
    private static final String ALIKE = "law 0 0 100;thing salt 3;day 1;day 1;day 1;day 1;";
    /** A LOAD of 15, and three DAYS on which it wears off. */
    private static final String WEARING = " 100;thing whale 1;thing salt 5;day 3;day 0;day 0;day 0;";

    private ForetoldSentences() {
    }

    static void all(Sentences s) {
        nothingChanges(s);
        worlds(s);
        rows(s);
        fits(s);
        sure(s);
        gap(s);
        wrong(s);
        soonTerms(s);
        soonLate(s);
        soon(s);
        laws(s);
        error(s);
        sold(s);
    }

    private static void nothingChanges(Sentences s) {
        s.says(0, "FORETOLD (nothing changes).");
        same(s, "next", x -> x.next(3));
        same(s, "fits", x -> x.fits(0, 0, 3));
        same(s, "sure", x -> x.sure(0, 0));
        same(s, "gap", x -> x.gap(0, 1));
        same(s, "wrong", x -> x.wrong(0, 1));
        same(s, "soon", x -> x.soon(-1));
        same(s, "laws", x -> x.laws(0));
        same(s, "error", x -> x.error(0));
        same(s, "sold", x -> x.sold(1, 1));
    }

    private static YesterdayScale twin() {
        YesterdayScale x = Checks.with(PAIR);
        x.image(0);
        x.undo();
        x.ask(0, 0);
        Checks.tell(x, 0, 3, 7, 7);
        Checks.feed(x, "law 2");
        return x;
    }

    private static void same(Sentences s, String name, ToIntFunction<YesterdayScale> call) {
        YesterdayScale x = twin();
        int first = call.applyAsInt(x);
        s.due(name + " again", call.applyAsInt(x), first);
        s.due(name + " changed nothing", Probe.of(x).equals(Probe.of(twin())) ? 1 : 0, 1);
    }

    private static void worlds(Sentences s) {
        s.says(0, "A WORLD: a way for all THINGS to have a WEIGHT of 0 to 7 each.");
        StringBuilder text = new StringBuilder("law 0 0 200;");
        for (int things = 0; things <= 4; things++) {
            YesterdayScale x = Checks.with(text.toString());
            x.row(0, 0, 0);
            int all = 1 << 3 * things;
            s.due("of " + things, x.fits(0, -1, 0), all);
            for (int thing = 0; thing < things; thing++) {
                for (int w = 0; w < 8; w++) {
                    s.due(thing + " weighs " + w, x.fits(0, thing, w), all / 8);
                }
            }
            text.append("thing salt 0;");
        }
        s.says(0, "A row tells for each DAY what it SHOWED, or -1, a gap.");
        YesterdayScale x = Checks.with(PAIR);
        int[] gaps = {255, 65535, -1};
        for (int lane = 0; lane < 3; lane++) {
            x.row(0, lane, 3);
            x.set(0, 0, gaps[lane]);
            x.set(0, 1, gaps[lane]);
            x.set(0, 2, gaps[lane]);
            s.due("all gaps", x.fits(0, -1, 0), 64);
            x.set(0, 0, 3);
            s.due("3 on day 0", x.fits(0, -1, 0), 8);
        }
        Checks.tell(x, 0, 0, 0, 0);
        s.due("0 is no gap", x.fits(0, -1, 0), 1);
        s.says(0, "A WORLD FITS, if by it each DAY that is no gap SHOWS that.");
        fitting(s, x, 1, 3, 8, 7);
        fitting(s, x, 0, 3, 8, 8);
        fitting(s, x, 0, 3, 7, 7);
        fitting(s, x, 0, 2, 8, 7);
        fitting(s, x, 1, -1, 8, 7);
        fitting(s, x, 1, 3, -1, 7);
        fitting(s, x, 1, 3, 8, -1);
        fitting(s, x, 4, -1, -1, 7);
        fitting(s, x, 1, -1, -1, 21);
        fitting(s, x, 0, -1, -1, 22);
        fitting(s, x, 0, Integer.MAX_VALUE, -1, -1);
        YesterdayScale even = Checks.with("law 0 0 2;thing whale 1;thing salt 1;thing fish 0;day 2;day 4;");
        fitting(s, even, 8 * 4 * 4, 0, 1);
        YesterdayScale anew = Checks.with("law 1 0 99;thing salt 1;thing stone 1;thing whale 2;day 1;day 2;day 4;");
        fitting(s, anew, 1, 1, 1, 21);
        fitting(s, anew, 8, -1, 1, 21);
        fitting(s, anew, 0, 1, 2, 21);
        heavyWorlds(s);
    }

    /** HEAVY in a WORLD: a fish of any WEIGHT up to 2 is 0 heavy on DAY 8, wool is 2 more then, a whale ten times. */
    private static void heavyWorlds(Sentences s) {
        String late = "day 0;".repeat(8);
        YesterdayScale fish = Checks.with("law 0 0 200;thing fish 1;" + late + "day 1;");
        fitting(s, fish, 3, 0, 0, 0, 0, 0, 0, 0, 0, 0);
        fitting(s, fish, 1, 0, 0, 0, 0, 0, 0, 0, 0, 5);
        fitting(s, fish, 0, 0, 0, 0, 0, 0, 0, 0, 0, 6);
        YesterdayScale x = Checks.with("law 0 0 200;thing wool 1;thing wool 2;thing wool 0;thing wool 0;"
            + late + "day 1;day 2;day 12;");
        int[] told = {0, 0, 0, 0, 0, 0, 0, 0, 2, 2, 4};
        fitting(s, x, 1, told);
        fitting(s, x, 1, told);
        for (int thing = 0; thing < 4; thing++) {
            s.due("wool of 0", x.sure(0, thing), 0);
        }
        s.due("DAY 8", x.gap(0, 8), 2);
        told[8] = 1;
        fitting(s, x, 0, told);
        s.due("DAY 8 is false", x.wrong(0, 1), 1 << 8);
        told[8] = 9;
        fitting(s, x, 1, told);
        s.due("wool of 7", x.sure(0, 0), 7);
        YesterdayScale whale = Checks.with("law 0 0 200;thing salt 0;thing whale 3;day 2;");
        fitting(s, whale, 8, 70);
        fitting(s, whale, 0, 7);
        // No WORLD but the 4096 of four THINGS counts, however DAYS ahead of wool that grows are told.
        YesterdayScale four = Checks.with("law 0 0 200;thing salt 1;thing salt 0;thing wool 0;thing salt 0;"
            + "day 0;day 0;day 0;day 1;day 4;day 1;");
        fitting(s, four, 512, 0, 0, 0, 1, -1, -1);
        s.due("salt of 1", four.sure(0, 0), 1);
        s.due("DAY 5", four.gap(0, 5), 1);
        fitting(s, four, 0, 0, 0, 0, 1, -1, 0);
        s.due("DAY 3 or 5 is false", four.wrong(0, 1), 1 << 3);
    }

    private static void fitting(Sentences s, YesterdayScale x, int many, int... told) {
        Checks.tell(x, 0, told);
        s.due("fits", x.fits(0, -1, 0), many);
    }

    private static void rows(Sentences s) {
        s.says(0, "(what a row tells: as many ITEMS as there are DAYS, of a ROW from its beginning on)");
        YesterdayScale x = Checks.with(PAIR);
        Checks.tell(x, 0, 3, 8, 7, 99, -2);
        s.due("more ITEMS", x.fits(0, -1, 0), 1);
        s.due("more ITEMS", x.wrong(0, 0), 0);
        s.due("more ITEMS", x.laws(0), 2);
        x.undo();
        s.due("fewer DAYS", x.sure(0, 1), 2);
        x.undo();
        s.due("one DAY", x.sure(0, 1), Checks.NONE);
        x.undo();
        s.due("no DAYS", x.fits(0, -1, 0), 64);
        x.row(1, 0, 0);
        s.due("no DAYS, no ITEMS", x.fits(1, -1, 0), 64);
        s.due("no DAYS, no ITEMS", x.sure(1, 0), Checks.NONE);
        s.due("no DAYS, no ITEMS", x.wrong(1, 1), 0);
        s.due("no DAYS, no ITEMS", x.laws(1), 255);
        x.day(1);
        s.due("one DAY, no ITEMS", x.fits(1, -1, 0), Checks.PLACE);
        YesterdayScale all = Checks.with("law 0 0 100;thing salt 3;");
        all.row(0, 0, 24);
        for (int d = 0; d < 24; d++) {
            all.day(1);
            all.set(0, d, 3);
        }
        s.due("24 DAYS", all.fits(0, -1, 0), 1);
        all.set(0, 23, 4);
        s.due("the last tells, too", all.fits(0, -1, 0), 0);
        all.row(0, 0, 23);
        s.due("23 ITEMS", all.fits(0, -1, 0), Checks.PLACE);
        s.says(0, "Ahead of the calls `row`, `set`, `copy`, `drop` the interface says: ---- rows.");
        s.due("row", all.row(0, 0, 1), 1);
        s.says(0, "Ahead of the calls `feed`, `port`, `fault`, `day`, `undo`, `shown`, `heavy` the interface says:"
            + " ---- ports, days.");
        s.due("undo", all.undo(), 23);
        s.says(0, "Ahead of the calls `next`, `fits`, `sure`, `gap`, `wrong`, `soon`, `laws`, `error`, `sold`,"
            + " `image`, `restore` the interface says: ---- foretold");
        s.due("next", all.next(1), 3);
        s.says(0, "Ahead of the calls `kind`, `as`, `ask`, `trace`, `count`, `status` the interface says: ---- asked.");
        s.due("kind", all.kind(0), 1);
    }

    /** What all calls that a ROW tells refuse alike; the call is made with all other numbers as told. */
    private static void asFits(Sentences s, ToIntBiFunction<YesterdayScale, Integer> call) {
        YesterdayScale x = Checks.with(PAIR);
        Checks.tell(x, 0, 3, 8, 7);
        refused(s, call, x);
        YesterdayScale none = new YesterdayScale();
        for (int row : new int[] {0, -1, 8}) {
            s.due("no PORT, row " + row, call.applyAsInt(none, row), Checks.STATE);
        }
        none.row(0, 0, 40);
        s.due("no PORT", call.applyAsInt(none, 0), Checks.STATE);
    }

    private static void refused(Sentences s, ToIntBiFunction<YesterdayScale, Integer> call, YesterdayScale x) {
        s.due("row 8", call.applyAsInt(x, 8), Checks.BAD);
        s.due("row -1", call.applyAsInt(x, -1), Checks.BAD);
        s.due("row least", call.applyAsInt(x, Integer.MIN_VALUE), Checks.BAD);
        s.due("missing", call.applyAsInt(x, 7), Checks.NULL);
        s.due("its number", x.status(), 1);
        Checks.tell(x, 7, -2, -2);
        s.due("two ITEMS for three DAYS", call.applyAsInt(x, 7), Checks.PLACE);
        s.due("its number", x.status(), 2);
        for (int day = 0; day < 3; day++) {
            Checks.tell(x, 7, 3, 8, 7);
            s.due("as told", call.applyAsInt(x, 7) < -1000000 ? 1 : 0, 0);
            x.as(0, 5);
            x.set(7, day, -1);
            s.due("a gap", call.applyAsInt(x, 7) < -1000000 ? 1 : 0, 0);
            for (int low : new int[] {-2, Integer.MIN_VALUE}) {
                x.set(7, day, low);
                x.as(0, 5);
                s.due("an ITEM below -1", call.applyAsInt(x, 7), Checks.BAD);
                s.due("status stays", x.status(), 3);
            }
        }
        Checks.tell(x, 7, 3, 8, 7, -2);
        s.due("an ITEM behind the DAYS", call.applyAsInt(x, 7) < -1000000 ? 1 : 0, 0);
    }

    private static void fits(Sentences s) {
        YesterdayScale x = Checks.with(PAIR);
        Checks.tell(x, 0, -1, -1, 7);
        s.says(0, "How many FIT;");
        s.due("7 0, 5 1, 3 2, 1 3", x.fits(0, -1, 0), 4);
        s.says(0, "in how many of these a THING has a WEIGHT;");
        for (int w = 0; w < 8; w++) {
            s.due("thing 0 weighs " + w, x.fits(0, 0, w), w % 2);
            s.due("thing 1 weighs " + w, x.fits(0, 1, w), w < 4 ? 1 : 0);
        }
        s.says(14, "WORLDS that FIT (thing = -1),");
        for (int w = 0; w < 8; w++) {
            s.due("whatever w is", x.fits(0, -1, w), 4);
        }
        s.says(14, "those in which a THING has WEIGHT w.");
        s.due("thing 1 weighs 3", x.fits(0, 1, 3), 1);
        s.due("thing 1 weighs 4", x.fits(0, 1, 4), 0);
        s.says(14, "BAD: THING,");
        s.due("thing 2", x.fits(0, 2, 0), Checks.BAD);
        s.due("thing -2", x.fits(0, -2, 0), Checks.BAD);
        s.due("thing 2, ahead of NULL", x.fits(7, 2, 0), Checks.BAD);
        YesterdayScale none = Checks.with("law 0 0 9;");
        none.row(0, 0, 0);
        s.due("thing 0 of none", none.fits(0, 0, 0), Checks.BAD);
        s.due("-1 of none", none.fits(0, -1, 0), 1);
        s.says(14, "w 0 to 7 (also with -1),");
        for (int thing = -1; thing < 2; thing++) {
            s.due("w 8", x.fits(0, thing, 8), Checks.BAD);
            s.due("w -1", x.fits(0, thing, -1), Checks.BAD);
            s.due("w 8, ahead of NULL", x.fits(7, thing, 8), Checks.BAD);
        }
        s.says(14, "ROW;");
        s.due("row 8", x.fits(8, -1, 0), Checks.BAD);
        s.due("row -1", x.fits(-1, -1, 0), Checks.BAD);
        s.says(14, "STATE: no PORT (ahead of BAD);");
        YesterdayScale fresh = new YesterdayScale();
        s.due("row 8", fresh.fits(8, -1, 0), Checks.STATE);
        s.due("thing 0", fresh.fits(0, 0, 0), Checks.STATE);
        s.due("w 8", fresh.fits(0, -1, 8), Checks.STATE);
        s.says(14, "NULL;");
        s.due("row 7", x.fits(7, -1, 0), Checks.NULL);
        s.says(14, "PLACE;");
        x.row(1, 0, 2);
        s.due("two ITEMS", x.fits(1, -1, 0), Checks.PLACE);
        s.says(14, "then BAD: an ITEM below -1.");
        asFits(s, (y, row) -> y.fits(row, -1, 0));
        asFits(s, (y, row) -> y.fits(row, 0, 3));
    }

    private static void sure(Sentences s) {
        YesterdayScale x = Checks.with(PAIR);
        s.says(0, "SURE: the WEIGHT that it has in all that FIT;");
        Checks.tell(x, 0, 3, -1, -1);
        s.due("thing 0", x.sure(0, 0), 3);
        s.due("thing 1", x.sure(0, 1), Checks.NONE);
        Checks.tell(x, 0, 0, -1, 14);
        s.due("0", x.sure(0, 0), 0);
        s.due("7", x.sure(0, 1), 7);
        s.says(0, "NONE (none FITS, too).");
        Checks.tell(x, 0, -1, -1, -1);
        s.due("all FIT", x.sure(0, 0), Checks.NONE);
        Checks.tell(x, 0, 8, -1, -1);
        s.due("none FITS", x.sure(0, 0), Checks.NONE);
        s.due("none FITS", x.sure(0, 1), Checks.NONE);
        Checks.tell(x, 0, -1, -1, 7);
        s.due("four FIT", x.sure(0, 0), Checks.NONE);
        s.says(15, "SURE;");
        Checks.tell(x, 0, -1, 8, 7);
        s.due("thing 0", x.sure(0, 0), 3);
        s.due("thing 1", x.sure(0, 1), 2);
        s.due("no FINDING", x.status(), 0);
        s.says(15, "NONE.");
        Checks.tell(x, 0, -1, 9, 7);
        x.drop(7);
        s.due("none FITS", x.sure(0, 0), Checks.NONE);
        s.due("NONE is no FINDING", x.status(), 0);
        s.says(15, "BAD, STATE, NULL, PLACE, BAD as fits().");
        s.due("thing 2", x.sure(0, 2), Checks.BAD);
        s.due("thing -1", x.sure(0, -1), Checks.BAD);
        s.due("thing 2, ahead of NULL", x.sure(7, 2), Checks.BAD);
        s.due("thing 0, no PORT", new YesterdayScale().sure(8, 9), Checks.STATE);
        asFits(s, (y, row) -> y.sure(row, 1));
    }

    private static void gap(Sentences s) {
        YesterdayScale x = Checks.with("law 1 0 100;thing salt 3;thing salt 2;day 3;day 0;day 1;");
        s.says(0, "GAP: what a DAY SHOWS in all WORLDS that FIT;");
        Checks.tell(x, 0, 5, -1, -1);
        s.due("yesterday's", x.gap(0, 1), 5);
        Checks.tell(x, 0, 0, -1, -1);
        s.due("0", x.gap(0, 2), 0);
        Checks.tell(x, 0, -1, -1, 0);
        s.due("not sure", x.gap(0, 0), Checks.NONE);
        s.says(0, "NONE (likewise).");
        Checks.tell(x, 0, 5, -1, -1);
        s.due("more than one", x.gap(0, 2), Checks.NONE);
        Checks.tell(x, 0, 15, -1, -1);
        s.due("none FITS", x.gap(0, 1), Checks.NONE);
        Checks.tell(x, 0, 4, 5, -1);
        s.due("none FITS", x.gap(0, 0), Checks.NONE);
        s.says(16, "GAP (of a DAY, whether it is a gap or not);");
        Checks.tell(x, 0, 5, -1, 4);
        s.due("no gap", x.gap(0, 0), 5);
        s.due("a gap", x.gap(0, 1), 5);
        s.due("no gap", x.gap(0, 2), 4);
        s.says(16, "NONE.");
        Checks.tell(x, 0, 5, 4, 4);
        s.due("none FITS", x.gap(0, 2), Checks.NONE);
        s.due("NONE is no FINDING", x.status(), 0);
        s.says(16, "BAD: DAY,");
        s.due("day 3", x.gap(0, 3), Checks.BAD);
        s.due("day -1", x.gap(0, -1), Checks.BAD);
        s.due("day 3, ahead of NULL", x.gap(7, 3), Checks.BAD);
        x.row(1, 0, 1);
        s.due("day 3, ahead of PLACE", x.gap(1, 3), Checks.BAD);
        x.row(2, 0, 4);
        s.due("an ITEM is no DAY", x.gap(2, 3), Checks.BAD);
        s.says(16, "ROW;");
        s.due("row 8", x.gap(8, 0), Checks.BAD);
        s.due("row -1", x.gap(-1, 0), Checks.BAD);
        s.says(16, "all else as fits().");
        s.due("no PORT", new YesterdayScale().gap(8, 9), Checks.STATE);
        asFits(s, (y, row) -> y.gap(row, 2));
    }

    private static void lies(Sentences s, YesterdayScale x, int many, int which, int... told) {
        Checks.tell(x, 0, told);
        s.due("how many", x.wrong(0, 0), many);
        s.due("which", x.wrong(0, 1), which);
    }

    private static void wrong(Sentences s) {
        YesterdayScale x = Checks.with(ALIKE);
        s.says(0, "FALSE: the fewest DAYS that would have to be gaps, so that some WORLD FITS:");
        lies(s, x, 0, 0, 3, 3, 3, 3);
        lies(s, x, 0, 0, 7, -1, 7, -1);
        lies(s, x, 0, 0, -1, -1, -1, -1);
        lies(s, x, 1, 4, 5, 5, 6, 5);
        lies(s, x, 1, 8, 3, 3, 3, 4);
        lies(s, x, 3, 14, 7, 8, 9, 10);
        lies(s, x, 4, 15, 8, 8, 8, 8);
        lies(s, x, 3, 13, 8, -1, 8, 8);
        YesterdayScale none = Checks.with("law 0 0 100;day 0;day 0;");
        lies(s, none, 1, 2, 0, 1);
        lies(s, none, 2, 3, 1, 1);
        s.says(0, "of several sets the least, as bits.");
        lies(s, x, 2, 3, 3, 3, 4, 4);
        lies(s, x, 2, 3, 4, 4, 3, 3);
        lies(s, x, 2, 5, 3, 4, 3, 4);
        lies(s, x, 2, 6, 3, 4, 4, 3);
        lies(s, x, 3, 7, 1, 2, 3, 4);
        lies(s, x, 1, 1, 1, -1, -1, 2);
        s.says(17, "FALSE: how many (what = 0),");
        YesterdayScale all = Checks.with("law 0 0 200;thing salt 1;");
        all.row(0, 0, 24);
        for (int d = 0; d < 24; d++) {
            all.day(1);
            all.set(0, d, 8 + d);
        }
        s.due("24", all.wrong(0, 0), 24);
        s.says(17, "which (1).");
        s.due("24", all.wrong(0, 1), (1 << 24) - 1);
        all.set(0, 23, 5);
        s.due("23", all.wrong(0, 1), (1 << 23) - 1);
        s.says(17, "BAD, STATE, NULL, PLACE, BAD as fits().");
        s.due("what 2", x.wrong(0, 2), Checks.BAD);
        s.due("what -1", x.wrong(0, -1), Checks.BAD);
        s.due("what 2, ahead of NULL", x.wrong(7, 2), Checks.BAD);
        s.due("what 2, no PORT", new YesterdayScale().wrong(0, 2), Checks.STATE);
        asFits(s, (y, row) -> y.wrong(row, 0));
        asFits(s, (y, row) -> y.wrong(row, 1));
    }

    private static void soonest(Sentences s, String text, int many, int... sets) {
        YesterdayScale x = Checks.with(text);
        s.due("how many for " + text, x.soon(-1), many);
        for (int k = 0; k < 3; k++) {
            s.due("set " + k + " for " + text, x.soon(k), k < sets.length ? sets[k] : Checks.NONE);
        }
    }

    private static void soonTerms(Sentences s) {
        s.says(0, "SOON: by what DAYS so far truly SHOW, and 0, 1, or 2 DAYS more would, with one SET each:");
        soonest(s, "law 0 0 200;", 0);
        soonest(s, "law 0 0 200;thing salt 3;day 1;", 0);
        soonest(s, "law 0 0 200;thing salt 3;day 0;", 1, 1);
        soonest(s, "law 0 0 200;thing salt 3;thing salt 4;", 2, 1, 2);
        soonest(s, "law 0 0 200;thing salt 3;thing salt 4;day 3;", 1, 1);
        soonest(s, "law 0 0 200;thing salt 3;thing salt 4;day 3;day 3;", 1, 1);
        soonest(s, "law 0 0 200;thing salt 3;thing salt 4;day 3;day 1;", 0);
        s.says(0, "the fewest such by which but one WORLD FITS: how many;");
        soonest(s, "law 0 0 200;thing salt 7;thing salt 7;thing salt 7;thing salt 7;", 1, 15);
        soonest(s, "law 0 0 200;thing salt 0;thing salt 0;thing salt 0;thing salt 0;", 1, 15);
        soonest(s, "law 0 0 200;thing salt 7;thing salt 7;day 3;", 0);
        soonest(s, "law 0 0 200;thing salt 6;thing salt 7;day 3;", 1, 1);
        soonest(s, "law 1 0 200;thing salt 3;thing salt 5;thing salt 7;day 1;day 2;", 1, 4);
        s.says(0, "the SETS, of several the first row;");
        soonest(s, "law 0 0 200;thing salt 3;", 1, 1);
        soonest(s, "law 0 0 200;thing whale 3;thing salt 3;", 1, 3);
        soonest(s, "law 3 0 200;thing salt 3;day 1;", 0);
        soonest(s, "law 3 1 4;thing salt 7;", 2, 1, 0);
        soonest(s, "law 2 0 200;thing stone 3;thing salt 3;day 0;", 2, 1, 2);
        // The sum of both is 5 or 10 or none; by half of it 5, and by the one that is 2 or 7, all is sure.
        soonest(s, "law 2 1 5;thing stone 2;thing stone 3;day 3;", 2, 0, 1);
        // By what is left over of it alone, 1, 4 and 7 are alike, or 0 and 7; by its half they are not.
        soonest(s, "law 1 1 3;thing fish 4;", 2, 1, 0);
        soonest(s, "law 1 1 7;thing stone 1;thing fish 0;day 1;", 2, 2, 0);
        soonest(s, "law 0 1 7;thing salt 1;thing salt 1;", 2, 1, 2);
        soonest(s, "law 1 0 18;thing whale 5;thing wool 1;thing salt 0;", 2, 3, 6);
        soonest(s, "law 2 1 6;thing salt 3;thing wool 7;thing whale 5;day 3;day 0;", 2, 5, 1);
        // A fish of 0, 3 or 6 on DAY 2, and one that has dried on DAY 3.
        soonest(s, "law 0 1 3;thing fish 0;day 0;day 0;", 2, 1, 1);
        // Yesterday's LOAD comes out where nothing lies today, so the least SET of all is enough.
        soonest(s, "law 1 1 4;thing salt 7;day 1;", 1, 0);
    }

    private static void soonLate(Sentences s) {
        s.says(0, "NONE: two are too few.");
        soonest(s, "law 0 0 200;thing salt 3;thing salt 4;thing salt 5;", Checks.NONE);
        soonest(s, "law 0 0 200;thing salt 3;thing salt 4;thing salt 5;thing salt 4;day 1;", Checks.NONE);
        soonest(s, "law 0 0 2;thing salt 3;", Checks.NONE);
        // 1 and 7 are alike by what is left over of them, and of twice as much.
        soonest(s, "law 1 0 6;thing wool 7;", Checks.NONE);
        soonest(s, "law 2 1 6;thing stone 3;thing stone 4;thing stone 0;", Checks.NONE);
        // A fish of 7 is 1 heavy on DAY 20, all others are 0 then; on DAY 21 all are.
        late(s, 7, 20, 1, 1);
        late(s, 7, 21, Checks.NONE, Checks.NONE);
        late(s, 6, 20, Checks.NONE, Checks.NONE);
        late(s, 6, 18, Checks.NONE, Checks.NONE);
        late(s, 6, 17, 1, 1);
        YesterdayScale full = Checks.with("law 0 0 200;thing salt 3;thing wool 4;" + "day 0;".repeat(12));
        for (int d = 12; d < 24; d++) {
            full.day(0);
        }
        s.due("behind 24 DAYS", full.soon(-1), 2);
        s.due("behind 24 DAYS", full.soon(0), 1);
        s.due("behind 24 DAYS", full.soon(1), 2);
        full.undo();
        s.due("behind 23 DAYS", full.soon(-1), 2);
    }

    private static void late(Sentences s, int weight, int days, int many, int first) {
        YesterdayScale x = Checks.with("law 0 0 200;thing fish " + weight + ";");
        for (int d = 0; d < days; d++) {
            x.day(0);
        }
        s.due("fish of " + weight + " on " + days, x.soon(-1), many);
        s.due("its SET", x.soon(0), first);
    }

    private static void soon(Sentences s) {
        YesterdayScale x = Checks.with("law 1 1 30;thing salt 4;thing salt 5;thing fish 3;day 1;");
        s.says(18, "SOON: how many (k = -1),");
        s.due("two", x.soon(-1), 2);
        s.says(18, "SET k;");
        s.due("first", x.soon(0), 2);
        s.due("second", x.soon(1), 4);
        x.day(2);
        s.due("a DAY came", x.soon(-1), 1);
        s.due("first", x.soon(0), 4);
        x.day(4);
        s.due("another", x.soon(-1), 0);
        x.undo();
        s.due("it went", x.soon(0), 4);
        x.image(0);
        x.undo();
        s.due("one less", x.soon(0), 2);
        x.restore(0);
        s.due("restored", x.soon(0), 4);
        Checks.feed(x, "law 0 0 2;");
        x.port();
        s.due("another PORT", x.soon(-1), 0);
        x.restore(0);
        s.due("restored again", x.soon(-1), 1);
        s.says(18, "NONE.");
        s.due("no second", x.soon(1), Checks.NONE);
        s.due("no third", x.soon(2), Checks.NONE);
        s.due("most", x.soon(Integer.MAX_VALUE), Checks.NONE);
        x.undo();
        x.undo();
        for (int k = -1; k < 3; k++) {
            s.due("two are too few", x.soon(k), Checks.NONE);
        }
        s.says(18, "BAD: k below -1;");
        s.due("-2", x.soon(-2), Checks.BAD);
        s.due("least", x.soon(Integer.MIN_VALUE), Checks.BAD);
        s.says(18, "STATE: no PORT (ahead of BAD).");
        for (int k = -2; k < 3; k++) {
            s.due("k " + k, new YesterdayScale().soon(k), Checks.STATE);
        }
    }

    private static void lawful(Sentences s, YesterdayScale x, int laws, int... told) {
        Checks.tell(x, 0, told);
        s.due("laws", x.laws(0), laws);
    }

    private static void laws(Sentences s) {
        s.says(0, "WHICH LAW: of KEEPS 0 to 3 and HALF 0 and 1 those (bits: KEEPS, and 4 HALF)");
        YesterdayScale x = Checks.with("law 2 1" + WEARING);
        lawful(s, x, 1 << 0 | 1 << 4, 15, 0, 0, 0);
        lawful(s, x, 1 << 1, 15, 15, 0, 0);
        lawful(s, x, 1 << 2, 15, 15, 15, 0);
        lawful(s, x, 1 << 3, 15, 15, 15, 15);
        lawful(s, x, 1 << 5, 15, 7, 0, 0);
        lawful(s, x, 1 << 6, 15, 7, 3, 0);
        lawful(s, x, 1 << 7, 15, 7, 3, 1);
        s.says(0, "by which, WEIGHTS and TOP as they are, all DAYS would have SHOWN what a row tells");
        lawful(s, x, 0, 14, 7, 3, 1);
        lawful(s, x, 0, 15, 7, 3, 2);
        lawful(s, x, 0, 15, 7, 0, 1);
        YesterdayScale low = Checks.with("law 0 0 10;thing whale 1;thing salt 5;thing stone 1;day 3;day 0;day 4;day 0;");
        lawful(s, low, 1 << 5 | 1 << 6 | 1 << 7, 5, 7, 1, -1);
        lawful(s, low, 1 << 1 | 1 << 2 | 1 << 3, 5, 5, 1, 1);
        lawful(s, low, 0, 15, 5, 1, 1);
        s.says(0, "(gaps tell nothing).");
        lawful(s, x, 255, -1, -1, -1, -1);
        lawful(s, x, 255, 15, -1, -1, -1);
        lawful(s, x, 1 << 3, -1, -1, -1, 15);
        lawful(s, x, 7 | 7 << 4, -1, -1, -1, 0);
        s.says(19, "WHICH LAW.");
        lawful(s, x, 1 << 2 | 1 << 3, -1, -1, 15, -1);
        YesterdayScale none = Checks.with("law 0 0 9;");
        none.row(0, 0, 0);
        s.due("no DAYS", none.laws(0), 255);
        s.says(19, "BAD, STATE, NULL, PLACE, BAD as fits().");
        asFits(s, (y, row) -> y.laws(row));
    }

    private static void error(Sentences s) {
        s.says(0, "ERROR: DAYS (bits) that would SHOW something else, if the LOAD of one DAY were 1 more.");
        int[] runsOn = {1, 3, 7, 15};
        for (int keeps = 0; keeps < 4; keeps++) {
            YesterdayScale x = Checks.with("law " + keeps + " 0 2;thing salt 1;" + "day 1;".repeat(6));
            s.due("keeps " + keeps, x.error(0), runsOn[keeps]);
            s.due("keeps " + keeps, x.error(1), runsOn[keeps] << 1);
            s.due("the last", x.error(5), 1 << 5);
        }
        int[] halved = {1, 3, 1, 7, 1, 3, 1, 15};
        for (int weight = 0; weight < 8; weight++) {
            YesterdayScale x = Checks.with("law 3 1 200;thing salt " + weight + ";day 1;day 0;day 0;day 0;day 0;");
            s.due("halved from " + weight, x.error(0), halved[weight]);
        }
        YesterdayScale anew = Checks.with("law 3 0 200;thing salt 1;thing stone 1;day 1;day 1;day 2;day 0;day 1;");
        s.due("up to the stone", anew.error(0), 3);
        s.due("up to the stone", anew.error(1), 2);
        s.due("from the stone on", anew.error(2), 4 | 8 | 16);
        s.says(20, "ERROR of a DAY.");
        YesterdayScale top = Checks.with("law 1 0 7;thing salt 6;day 1;day 0;day 0;");
        s.due("to TOP itself", top.error(0), 3);
        s.due("of a DAY without anything", top.error(1), 6);
        for (int d = 3; d < 24; d++) {
            top.day(0);
        }
        s.due("of DAY 23", top.error(23), 1 << 23);
        s.due("of DAY 22", top.error(22), 3 << 22);
        s.says(20, "BAD.");
        s.due("no day 24", top.error(24), Checks.BAD);
        s.due("no day -1", top.error(-1), Checks.BAD);
        s.due("no day 5", anew.error(5), Checks.BAD);
        s.due("no PORT", new YesterdayScale().error(0), Checks.BAD);
    }

    private static void sold(Sentences s) {
        YesterdayScale x = Checks.with("law 1 0 10;thing salt 3;thing fish 6;thing salt 0;"
            + "day 1;day 3;day 2;day 3;day 0;");
        s.says(0, "SOLD: a THING that lies on the scale on DAY d (1 and more) is sold by what that DAY SHOWS less what"
            + " the one ahead of it does:");
        s.due("2 less 3, and 3", x.sold(0, 1), -1 - 3);
        s.due("5 less 2, and 6", x.sold(1, 2), 3 - 6);
        s.due("4 less 5, and a dried fish", x.sold(1, 3), -1 - 5);
        s.says(0, "by how much that is more than it is HEAVY (below 0: less).");
        YesterdayScale y = Checks.with("law 0 0 100;thing salt 3;thing salt 4;thing whale 2;"
            + "day 0;day 1;day 3;day 3;day 7;");
        s.due("just as much", y.sold(0, 1), 0);
        s.due("more", y.sold(0, 2), 4 - 3);
        s.due("just as much", y.sold(1, 2), 0);
        s.due("less", y.sold(1, 3), 0 - 4);
        s.due("a whale", y.sold(2, 4), 0);
        s.due("with a whale", y.sold(0, 4), 20 - 3);
        s.says(21, "SOLD.");
        YesterdayScale last = Checks.with("law 0 0 100;thing salt 3;");
        for (int d = 0; d < 24; d++) {
            last.day(d & 1);
        }
        s.due("the last DAY", last.sold(0, 23), 0);
        s.says(21, "BAD: DAY 0,");
        s.due("day 0, though it lies there", x.sold(0, 0), Checks.BAD);
        s.due("no day 5", x.sold(0, 5), Checks.BAD);
        s.due("no day -1", x.sold(0, -1), Checks.BAD);
        s.due("no day 24", last.sold(0, 24), Checks.BAD);
        s.due("no PORT", new YesterdayScale().sold(0, 1), Checks.BAD);
        s.says(21, "a THING that does not lie there, too.");
        s.due("thing 0 on day 2", x.sold(0, 2), Checks.BAD);
        s.due("thing 2 on day 1", x.sold(2, 1), Checks.BAD);
        s.due("thing 0 on day 4", x.sold(0, 4), Checks.BAD);
        s.due("no thing 3", x.sold(3, 1), Checks.BAD);
        s.due("no thing -1", x.sold(-1, 1), Checks.BAD);
        s.due("no thing 32", x.sold(32, 1), Checks.BAD);
    }
}
