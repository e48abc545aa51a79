/** Promises 9 to 13: DAYS that come and go, what they SHOW, what THINGS weigh on them. */
public final class DaysTest {
    public static void main(String[] args) {
        Checks c = new Checks("Days");
        day(c);
        undo(c);
        shown(c);
        fresh(c);
        halves(c);
        heavy(c);
        next(c);
        c.end();
    }

    private static void day(Checks c) {
        YesterdayScale x = Checks.with("law 1 0 10;thing salt 3;thing salt 4;");
        c.due("nothing lies", x.day(0), 0);
        c.due("3", x.day(1), 3);
        c.due("3 and 7", x.day(3), 0);
        c.due("4 and 7", x.day(2), 1);
        c.due("no thing 2", x.day(4), Checks.BAD);
        c.due("below 0", x.day(-1), Checks.BAD);
        c.due("lowest", x.day(Integer.MIN_VALUE), Checks.BAD);
        for (int i = 4; i < 24; i++) {
            c.due("more days", x.day(1), i == 4 ? 7 : 6);
        }
        c.due("24 are all", x.day(1), Checks.FULL);
        c.due("BAD ahead of FULL", x.day(4), Checks.BAD);
        c.due("still 24", x.count(2), 24);
        c.due("the last", x.shown(23, 2), 6);
        c.due("undo makes room", x.undo(), 23);
        c.due("one more", x.day(2), 7);
    }

    private static void undo(Checks c) {
        YesterdayScale x = Checks.with("law 1 0 10;thing salt 3;day 1;day 0;");
        x.day(1);
        c.due("undo", x.undo(), 2);
        c.due("told ones, too", x.undo(), 1);
        c.due("and the first", x.undo(), 0);
        c.due("none is left", x.undo(), Checks.STATE);
        c.due("nothing lay before", x.day(1), 3);
    }

    private static void shown(Checks c) {
        YesterdayScale x = Checks.with("law 2 0 50;thing salt 3;thing fish 6;thing stone 2;thing wool 5;"
            + "day 1;day 2;day 3;day 9;day 4;day 10;");
        int[][] due = {{1, 3, 3, 0}, {2, 6, 9, 0}, {3, 9, 18, 0}, {9, 8, 23, 0}, {4, 2, 2, 1}, {10, 11, 13, 0}};
        for (int day = 0; day < due.length; day++) {
            for (int what = 0; what < 4; what++) {
                c.due("shown(" + day + ", " + what + ")", x.shown(day, what), due[day][what]);
            }
        }
        c.due("no such what", x.shown(0, 4), Checks.BAD);
        c.due("no such what", x.shown(0, -1), Checks.BAD);
        c.due("no such day", x.shown(6, 0), Checks.BAD);
        c.due("no such day", x.shown(-1, 0), Checks.BAD);
    }

    private static void fresh(Checks c) {
        YesterdayScale x = Checks.with("law 3 0 200;thing salt 1;thing stone 2;thing whale 1;");
        c.due("1", x.day(1), 1);
        c.due("1 1", x.day(1), 2);
        c.due("a stone begins anew", x.day(3), 3);
        c.due("the stone's own day counts on", x.day(1), 4);
        c.due("none behind it does", x.day(0), 4);
        c.due("three days back", x.day(0), 4);
        c.due("the stone's day is too far now", x.day(0), 1);
        c.due("a whale does not", x.day(4), 10);
        c.due("nor now", x.day(1), 11);
        c.due("FRESH", x.shown(2, 3), 1);
        c.due("not FRESH", x.shown(7, 3), 0);
    }

    private static void halves(Checks c) {
        YesterdayScale x = Checks.with("law 3 1 200;thing salt 7;");
        c.due("7", x.day(1), 7);
        c.due("7 3", x.day(1), 10);
        c.due("7 3 1", x.day(1), 11);
        c.due("7 3 1 0", x.day(1), 11);
        c.due("0 3 1 0", x.day(0), 4);
        YesterdayScale y = Checks.with("law 2 0 2;thing salt 7;");
        c.due("left over by 2", y.day(1), 1);
        c.due("left over by 2", y.day(1), 0);
        c.due("LOAD is whole", y.shown(1, 1), 7);
    }

    private static void heavy(Checks c) {
        YesterdayScale x = Checks.with("law 0 0 2;thing fish 7;thing wool 0;thing whale 7;thing stone 6;");
        c.due("fish", x.heavy(0, -1), 7);
        c.due("fish 2", x.heavy(0, 2), 7);
        c.due("fish 3", x.heavy(0, 3), 6);
        c.due("fish 20", x.heavy(0, 20), 1);
        c.due("fish 21", x.heavy(0, 21), 0);
        c.due("fish 99", x.heavy(0, 99), 0);
        c.due("wool", x.heavy(1, -1), 0);
        c.due("wool 3", x.heavy(1, 3), 0);
        c.due("wool 4", x.heavy(1, 4), 1);
        c.due("wool 99", x.heavy(1, 99), 24);
        c.due("whale", x.heavy(2, -1), 7);
        c.due("whale 0", x.heavy(2, 0), 70);
        c.due("stone", x.heavy(3, 99), 6);
        c.due("day 100", x.heavy(0, 100), Checks.BAD);
        c.due("day -2", x.heavy(0, -2), Checks.BAD);
        c.due("thing 4", x.heavy(4, 0), Checks.BAD);
        c.due("thing -1", x.heavy(-1, 0), Checks.BAD);
    }

    private static void next(Checks c) {
        YesterdayScale x = Checks.with("law 1 0 100;thing salt 3;thing wool 2;thing stone 1;day 1;");
        c.due("nothing", x.next(0), 3);
        c.due("wool", x.next(2), 5);
        c.due("stone", x.next(6), 3);
        c.due("BAD", x.next(8), Checks.BAD);
        c.due("BAD", x.next(-1), Checks.BAD);
        c.due("nothing changes", x.count(2), 1);
        c.due("nor what is shown", x.shown(1, 0), Checks.BAD);
        for (int i = 1; i < 24; i++) {
            x.day(1);
        }
        c.due("behind 24 days, too", x.next(2), 11);
        c.due("the day itself is refused", x.day(2), Checks.FULL);
    }
}
