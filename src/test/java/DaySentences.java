/** Terms of HEAVY, LOAD, FRESH and SHOWS; promises 9 to 13. */
final class DaySentences {
    private DaySentences() {
    }

    static void all(Sentences s) {
        heavyTerms(s);
        loads(s);
        kept(s);
        fresh(s);
        top(s);
        moreAndFewer(s);
        day(s);
        undo(s);
        shown(s);
        heavy(s);
        next(s);
    }

    private static void heavyTerms(Sentences s) {
        YesterdayScale x = Checks.with("law 0 0 200;thing salt 5;thing stone 6;thing fish 2;thing fish 0;");
        s.says(0, "HEAVY of a THING on DAY d: its WEIGHT;");
        for (int d = 0; d < 100; d += 33) {
            s.due("salt on " + d, x.heavy(0, d), 5);
            s.due("stone on " + d, x.heavy(1, d), 6);
        }
        s.says(0, "of a fish d by 3 less, 0 at least;");
        int[] fish = {2, 2, 2, 1, 1, 1, 0, 0, 0, 0};
        for (int d = 0; d < fish.length; d++) {
            s.due("fish on " + d, x.heavy(2, d), fish[d]);
        }
        s.due("fish on 99", x.heavy(2, 99), 0);
        s.due("fish of 0 on 3", x.heavy(3, 3), 0);
        YesterdayScale y = Checks.with("law 0 0 200;thing fish 7;thing wool 0;thing wool 7;thing whale 7;");
        s.due("fish of 7 on 20", y.heavy(0, 20), 1);
        s.due("fish of 7 on 21", y.heavy(0, 21), 0);
        s.says(0, "of wool d by 4 more;");
        int[] wool = {0, 0, 0, 0, 1, 1, 1, 1, 2};
        for (int d = 0; d < wool.length; d++) {
            s.due("wool on " + d, y.heavy(1, d), wool[d]);
            s.due("wool of 7 on " + d, y.heavy(2, d), 7 + wool[d]);
        }
        s.due("wool on 99", y.heavy(1, 99), 24);
        s.says(0, "of a whale ten times its WEIGHT.");
        s.due("whale of 7", y.heavy(3, 0), 70);
        s.due("on a later day", y.heavy(3, 99), 70);
        s.due("whale of 0", Checks.with("law 0 0 2;thing whale 0;").heavy(0, 5), 0);
        s.due("whale of 1", Checks.with("law 0 0 2;thing whale 1;").heavy(0, 5), 10);
    }

    private static void loads(Sentences s) {
        YesterdayScale x = Checks.with("law 0 0 200;thing salt 5;thing fish 2;thing wool 3;thing whale 1;"
            + "day 0;day 15;day 1;day 2;day 4;day 15;day 6;");
        s.says(0, "LOAD of a DAY: what lies on the scale on it is HEAVY then, added.");
        int[] load = {0, 20, 5, 1, 4, 20, 4};
        for (int d = 0; d < load.length; d++) {
            s.due("load of " + d, x.shown(d, 1), load[d]);
        }
        s.says(0, "A DAY d SHOWS: its LOAD,");
        for (int d = 0; d < load.length; d++) {
            s.due("shown on " + d, x.shown(d, 2), load[d]);
        }
    }

    private static void kept(Sentences s) {
        s.says(0, "and for k 1 to KEEPS,");
        int[][] shown = {{1, 0, 0, 0, 0}, {1, 1, 0, 0, 0}, {1, 1, 1, 0, 0}, {1, 1, 1, 1, 0}};
        for (int keeps = 0; keeps < 4; keeps++) {
            YesterdayScale x = Checks.with("law " + keeps + " 0 9;thing salt 1;day 1;day 0;day 0;day 0;day 0;");
            for (int d = 0; d < 5; d++) {
                s.due("keeps " + keeps + " day " + d, x.shown(d, 2), shown[keeps][d]);
            }
        }
        s.says(0, "as long as there is a DAY d less k,");
        YesterdayScale x = Checks.with("law 3 0 200;thing salt 7;day 1;day 1;day 1;day 1;day 1;");
        for (int d = 0; d < 5; d++) {
            s.due("day " + d, x.shown(d, 2), 7 * Math.min(d + 1, 4));
        }
        s.says(0, "(HALF 1: by 2, k times over, each time cut);");
        YesterdayScale half = Checks.with("law 3 1 200;thing whale 1;thing salt 5;day 3;day 0;day 0;day 0;day 0;");
        int[] halved = {15, 7, 3, 1, 0};
        for (int d = 0; d < 5; d++) {
            s.due("15 on " + d, half.shown(d, 2), halved[d]);
        }
        YesterdayScale each = Checks.with("law 3 1 200;thing salt 3;day 1;day 1;day 1;day 1;");
        s.due("each is cut for itself", each.shown(3, 2), 3 + 1);
        YesterdayScale none = Checks.with("law 3 0 200;thing salt 3;day 1;day 1;day 1;day 1;");
        s.due("HALF 0", none.shown(3, 2), 12);
    }

    private static void fresh(Sentences s) {
        s.says(0, "A DAY is FRESH, if a stone lies on the scale.");
        YesterdayScale x = Checks.with("law 3 0 200;thing salt 1;thing stone 0;thing stone 2;thing whale 1;"
            + "day 1;day 2;day 4;day 6;day 8;day 15;day 0;");
        int[] fresh = {0, 1, 1, 1, 0, 1, 0};
        for (int d = 0; d < fresh.length; d++) {
            s.due("day " + d, x.shown(d, 3), fresh[d]);
        }
        s.says(0, "and none of the DAYS behind that one up to d is FRESH, the LOAD of that");
        YesterdayScale y = Checks.with("law 3 0 200;thing salt 1;thing stone 2;thing whale 4;"
            + "day 1;day 4;day 3;day 1;day 4;day 1;day 1;");
        s.due("nothing but salt", y.shown(0, 2), 1);
        s.due("no stone so far", y.shown(1, 2), 41);
        s.due("d is FRESH itself", y.shown(2, 2), 3);
        s.due("the FRESH one counts a day behind it", y.shown(3, 2), 4);
        s.due("and two days behind it", y.shown(4, 2), 44);
        s.due("and three", y.shown(5, 2), 45);
        s.due("not four: it is too far", y.shown(6, 2), 43);
        YesterdayScale again = Checks.with("law 2 0 200;thing stone 2;day 1;day 1;day 0;day 0;day 0;");
        s.due("two FRESH ones", again.shown(1, 2), 2);
        s.due("only the later counts", again.shown(2, 2), 2);
        s.due("on both days", again.shown(3, 2), 2);
        s.due("no longer", again.shown(4, 2), 0);
    }

    private static void top(Sentences s) {
        s.says(0, "all that left over by TOP.");
        YesterdayScale x = Checks.with("law 1 0 7;thing salt 6;thing salt 1;day 1;day 2;day 3;day 3;");
        s.due("below", x.shown(0, 2), 6);
        s.due("just TOP", x.shown(1, 2), 0);
        s.due("above", x.shown(2, 2), 1);
        s.due("twice", x.shown(3, 2), 0);
        s.due("a LOAD is not", x.shown(2, 1), 7);
        s.due("what came ahead is whole", x.next(0), 0);
        YesterdayScale most = Checks.with("law 3 0 200;thing whale 7;thing whale 7;thing whale 7;thing whale 7;"
            + "day 15;day 15;day 15;day 15;");
        s.due("280", most.shown(0, 2), 80);
        s.due("four times 280", most.shown(3, 2), 1120 % 200);
        YesterdayScale halved = Checks.with("law 1 1 7;thing salt 7;thing salt 5;day 3;day 0;");
        s.due("12", halved.shown(0, 2), 5);
        s.due("6: halved ahead of being left over", halved.shown(1, 2), 6);
    }

    private static void moreAndFewer(Sentences s) {
        s.says(0, "A DAY more with a SET can come (24 in all at most);");
        YesterdayScale x = Checks.with("law 0 0 9;thing salt 3;" + "day 1;".repeat(12));
        for (int d = 12; d < 24; d++) {
            s.due("day " + d, x.day(d & 1), 3 * (d & 1));
            s.due("its SET", x.shown(d, 0), d & 1);
        }
        s.due("a 25th", x.day(0), Checks.FULL);
        s.due("24", x.count(2), 24);
        YesterdayScale none = Checks.with("law 0 0 9;");
        for (int d = 0; d < 24; d++) {
            s.due("day " + d, none.day(0), 0);
        }
        s.due("a 25th", none.day(0), Checks.FULL);
        s.says(0, "the latest DAY can be undone, told ones, too.");
        for (int d = 23; d >= 0; d--) {
            s.due("undo", x.undo(), d);
        }
        s.due("none", x.undo(), Checks.STATE);
    }

    private static void day(Sentences s) {
        s.says(9, "A DAY more with a SET: what it SHOWS.");
        YesterdayScale x = Checks.with("law 1 0 10;thing salt 3;thing salt 4;");
        s.due("both", x.day(3), 7);
        s.due("both again", x.day(3), 4);
        s.due("none", x.day(0), 7);
        s.due("none again", x.day(0), 0);
        s.due("three SETS", x.shown(1, 0), 3);
        s.says(9, "BAD: THINGS that there are not;");
        s.due("thing 2", x.day(4), Checks.BAD);
        s.due("thing 2 with others", x.day(7), Checks.BAD);
        s.due("thing 30", x.day(1 << 30), Checks.BAD);
        s.due("-1", x.day(-1), Checks.BAD);
        s.due("least", x.day(Integer.MIN_VALUE), Checks.BAD);
        s.due("all that there are", x.day(3), 7);
        YesterdayScale nothing = Checks.with("law 1 0 10;");
        s.due("thing 0", nothing.day(1), Checks.BAD);
        YesterdayScale four = Checks.with("law 1 0 90;thing salt 1;thing salt 1;thing salt 1;thing salt 1;");
        s.due("thing 4", four.day(16), Checks.BAD);
        s.due("four", four.day(15), 4);
        s.says(9, "STATE: no PORT (ahead of BAD);");
        YesterdayScale none = new YesterdayScale();
        s.due("0", none.day(0), Checks.STATE);
        s.due("-1", none.day(-1), Checks.STATE);
        s.says(9, "FULL: 24 DAYS.");
        for (int d = 5; d < 24; d++) {
            x.day(0);
        }
        s.due("24", x.count(2), 24);
        s.due("one more", x.day(0), Checks.FULL);
        s.due("BAD first", x.day(4), Checks.BAD);
        x.undo();
        s.due("room again", x.day(1), 3);
        s.due("and full", x.day(1), Checks.FULL);
    }

    private static void undo(Sentences s) {
        s.says(10, "The latest DAY is undone: how many are left.");
        YesterdayScale x = Checks.with("law 3 0 90;thing salt 3;thing stone 4;day 1;day 2;");
        x.day(1);
        s.due("one that came", x.undo(), 2);
        s.due("no day 2", x.shown(2, 0), Checks.BAD);
        s.due("a told one", x.undo(), 1);
        s.due("the stone is gone, too", x.day(1), 6);
        s.due("undone", x.undo(), 1);
        s.due("the first", x.undo(), 0);
        s.due("no day 0", x.shown(0, 0), Checks.BAD);
        s.says(10, "STATE: none.");
        s.due("no day", x.undo(), Checks.STATE);
        s.due("the PORT is there", x.day(1), 3);
        s.due("no PORT", new YesterdayScale().undo(), Checks.STATE);
    }

    private static void shown(Sentences s) {
        YesterdayScale x = Checks.with("law 1 0 9;thing salt 3;thing stone 7;day 1;day 2;day 3;");
        s.says(11, "Of a DAY: 0 SET,");
        s.due("day 2", x.shown(2, 0), 3);
        s.says(11, "1 LOAD,");
        s.due("day 2", x.shown(2, 1), 10);
        s.says(11, "2 what it SHOWS,");
        s.due("day 2", x.shown(2, 2), 1);
        s.says(11, "3 whether FRESH (1, 0).");
        s.due("day 2", x.shown(2, 3), 1);
        s.due("day 0", x.shown(0, 3), 0);
        s.says(11, "BAD.");
        for (int what = 0; what < 4; what++) {
            s.due("no day 3", x.shown(3, what), Checks.BAD);
            s.due("no day -1", x.shown(-1, what), Checks.BAD);
            s.due("no day so late", x.shown(Integer.MAX_VALUE, what), Checks.BAD);
            s.due("no PORT", new YesterdayScale().shown(0, what), Checks.BAD);
        }
        s.due("what 4", x.shown(0, 4), Checks.BAD);
        s.due("what -1", x.shown(0, -1), Checks.BAD);
    }

    private static void heavy(Sentences s) {
        YesterdayScale x = Checks.with("law 0 0 9;thing fish 7;thing whale 3;");
        s.says(12, "Of a THING: WEIGHT (day = -1),");
        s.due("fish", x.heavy(0, -1), 7);
        s.due("whale", x.heavy(1, -1), 3);
        s.says(12, "HEAVY on a DAY (0 to 99).");
        s.due("fish on 0", x.heavy(0, 0), 7);
        s.due("fish on 9", x.heavy(0, 9), 4);
        s.due("whale on 99", x.heavy(1, 99), 30);
        s.says(12, "BAD.");
        s.due("day 100", x.heavy(0, 100), Checks.BAD);
        s.due("day -2", x.heavy(0, -2), Checks.BAD);
        s.due("least day", x.heavy(0, Integer.MIN_VALUE), Checks.BAD);
        s.due("most day", x.heavy(0, Integer.MAX_VALUE), Checks.BAD);
        s.due("thing 2", x.heavy(2, 0), Checks.BAD);
        s.due("thing 2, WEIGHT", x.heavy(2, -1), Checks.BAD);
        s.due("thing -1", x.heavy(-1, 0), Checks.BAD);
        s.due("thing 4", Checks.with("law 0 0 9;thing salt 1;thing salt 1;thing salt 1;thing salt 1;").heavy(4, 0),
            Checks.BAD);
        s.due("no PORT", new YesterdayScale().heavy(0, -1), Checks.BAD);
    }

    private static void next(Sentences s) {
        YesterdayScale x = Checks.with("law 1 0 100;thing salt 3;thing wool 2;thing stone 1;day 1;day 3;day 1;day 1;");
        s.says(13, "What the next DAY would SHOW with a SET.");
        s.due("none", x.next(0), 3);
        s.due("wool, as it is then", x.next(2), 3 + 3);
        s.due("all: a stone", x.next(7), 3 + 3 + 1);
        s.due("no DAY came", x.count(2), 4);
        s.due("as day() says", x.day(2), 6);
        x.undo();
        s.due("behind an undone one", x.next(0), 3);
        YesterdayScale first = Checks.with("law 3 0 100;thing salt 3;");
        s.due("the first", first.next(1), 3);
        s.says(13, "BAD;");
        s.due("thing 3", x.next(8), Checks.BAD);
        s.due("-1", x.next(-1), Checks.BAD);
        s.due("most", x.next(Integer.MAX_VALUE), Checks.BAD);
        s.due("without things", Checks.with("law 0 0 9;").next(1), Checks.BAD);
        s.says(13, "STATE: no PORT (ahead of BAD).");
        s.due("0", new YesterdayScale().next(0), Checks.STATE);
        s.due("-1", new YesterdayScale().next(-1), Checks.STATE);
        s.due("16", new YesterdayScale().next(16), Checks.STATE);
        for (int d = 4; d < 24; d++) {
            x.day(1);
        }
        s.due("24 DAYS are no refusal: it is only foretold", x.next(1), 6);
    }
}
