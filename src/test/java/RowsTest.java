/** Promises 2 to 5 and 29: ROWS, and what status() says of them. */
public final class RowsTest {
    public static void main(String[] args) {
        Checks c = new Checks("Rows");
        row(c);
        set(c);
        copy(c);
        drop(c);
        status(c);
        c.end();
    }

    private static void row(Checks c) {
        YesterdayScale x = new YesterdayScale();
        c.due("row(0, 0, 0)", x.row(0, 0, 0), 0);
        c.due("row(7, 2, 40)", x.row(7, 2, 40), 40);
        c.due("row(8, 0, 1)", x.row(8, 0, 1), Checks.BAD);
        c.due("row(-1, 0, 1)", x.row(-1, 0, 1), Checks.BAD);
        c.due("row(0, 3, 1)", x.row(0, 3, 1), Checks.BAD);
        c.due("row(0, -1, 1)", x.row(0, -1, 1), Checks.BAD);
        c.due("row(0, 0, 41)", x.row(0, 0, 41), Checks.BAD);
        c.due("row(0, 0, -1)", x.row(0, 0, -1), Checks.SIZE);
        c.due("row BAD ahead of SIZE", x.row(0, 3, -1), Checks.BAD);
        c.due("row least", x.row(1, 0, Integer.MIN_VALUE), Checks.SIZE);
        c.due("nothing was made", x.count(0), 2);
        c.due("set last", x.set(7, 39, 5), 5);
        c.due("row refused keeps", x.row(7, 1, -1), Checks.SIZE);
        x.row(6, 2, 1);
        x.copy(7, 39, 6, 0, 1);
        c.due("item kept", x.drop(6), 1);
        c.due("made anew", x.row(7, 0, 40), 40);
        Checks.feed(x, "law 0 0 200;thing salt 5;day 1;");
        x.port();
        x.row(5, 0, 1);
        x.set(5, 0, 5);
        c.due("tells 5", x.fits(5, 0, 5), 1);
        x.row(5, 0, 1);
        c.due("items are 0 again", x.fits(5, 0, 0), 1);
    }

    private static void set(Checks c) {
        YesterdayScale x = new YesterdayScale();
        x.row(0, 0, 2);
        x.row(1, 1, 2);
        x.row(2, 2, 2);
        c.due("byte 127", x.set(0, 0, 127), 127);
        c.due("byte 128", x.set(0, 0, 128), -128);
        c.due("byte 255", x.set(0, 1, 255), -1);
        c.due("byte 256", x.set(0, 1, 256), 0);
        c.due("short 32768", x.set(1, 0, 32768), -32768);
        c.due("short 65535", x.set(1, 0, 65535), -1);
        c.due("short 65541", x.set(1, 0, 65541), 5);
        c.due("int", x.set(2, 1, Integer.MIN_VALUE), Integer.MIN_VALUE);
        c.due("BAD row", x.set(8, 0, 0), Checks.BAD);
        c.due("BAD row", x.set(-1, 0, 0), Checks.BAD);
        c.due("NULL", x.set(3, 0, 0), Checks.NULL);
        c.due("NULL ahead of PLACE", x.set(3, -1, 0), Checks.NULL);
        c.due("PLACE", x.set(0, 2, 0), Checks.PLACE);
        c.due("PLACE", x.set(0, -1, 0), Checks.PLACE);
        x.row(4, 0, 0);
        c.due("PLACE of none", x.set(4, 0, 0), Checks.PLACE);
    }

    private static void copy(Checks c) {
        YesterdayScale x = Checks.with("law 0 0 200;thing salt 7;day 1;day 1;day 1;day 1;");
        Checks.tell(x, 0, 1, 2, 3, 4);
        c.due("onto itself, forward", x.copy(0, 0, 0, 1, 3), 3);
        c.hold("1 1 2 3", holds(x, 0, 1, 1, 2, 3));
        Checks.tell(x, 0, 1, 2, 3, 4);
        c.due("onto itself, back", x.copy(0, 1, 0, 0, 3), 3);
        c.hold("2 3 4 4", holds(x, 0, 2, 3, 4, 4));
        x.row(1, 2, 4);
        c.due("into another", x.copy(0, 1, 1, 2, 2), 2);
        c.hold("0 0 3 4", holds(x, 1, 0, 0, 3, 4));
        c.due("none at the ends", x.copy(0, 4, 1, 4, 0), 0);
        c.due("BAD a", x.copy(8, 0, 1, 0, 0), Checks.BAD);
        c.due("BAD b", x.copy(0, 0, -1, 0, 0), Checks.BAD);
        c.due("BAD ahead of NULL", x.copy(5, 0, 8, 0, 0), Checks.BAD);
        c.due("NULL a", x.copy(5, 0, 1, 0, 0), Checks.NULL);
        c.due("NULL b", x.copy(0, 0, 5, 9, -1), Checks.NULL);
        x.row(2, 1, 4);
        c.due("STORE", x.copy(0, 0, 2, 0, 1), Checks.STORE);
        c.due("STORE ahead of PLACE", x.copy(0, -1, 2, 9, -1), Checks.STORE);
        c.due("PLACE i", x.copy(0, -1, 1, 0, 1), Checks.PLACE);
        c.due("PLACE j", x.copy(0, 0, 1, -1, 1), Checks.PLACE);
        c.due("PLACE n", x.copy(0, 0, 1, 0, -1), Checks.PLACE);
        c.due("PLACE i end", x.copy(0, 2, 1, 0, 3), Checks.PLACE);
        c.due("PLACE j end", x.copy(0, 0, 1, 2, 3), Checks.PLACE);
        c.due("PLACE i beyond", x.copy(0, 5, 1, 0, 0), Checks.PLACE);
        c.due("PLACE huge", x.copy(0, 1, 1, 1, Integer.MAX_VALUE), Checks.PLACE);
        c.due("PLACE huge i", x.copy(0, Integer.MAX_VALUE, 1, 1, 1), Checks.PLACE);
        c.hold("kept", holds(x, 1, 0, 0, 3, 4));
    }

    /** Whether a ROW tells just these LOADS, asked by the one salt that lies there each DAY. */
    private static boolean holds(YesterdayScale x, int row, int... items) {
        for (int i = 0; i < items.length; i++) {
            x.row(7, 2, items.length);
            for (int k = 0; k < items.length; k++) {
                x.set(7, k, -1);
            }
            x.copy(row, i, 7, i, 1);
            if (x.sure(7, 0) != items[i]) {
                return false;
            }
        }
        return true;
    }

    private static void drop(Checks c) {
        YesterdayScale x = new YesterdayScale();
        x.row(3, 1, 17);
        c.due("drop", x.drop(3), 17);
        c.due("drop again", x.drop(3), Checks.NULL);
        c.due("drop BAD", x.drop(8), Checks.BAD);
        c.due("drop BAD", x.drop(-1), Checks.BAD);
        c.due("is missing", x.set(3, 0, 0), Checks.NULL);
        x.row(3, 0, 0);
        c.due("drop of none", x.drop(3), 0);
    }

    private static void status(Checks c) {
        YesterdayScale x = Checks.with("law 0 0 200;thing salt 7;day 1;");
        x.row(0, 0, -1);
        c.due("SIZE", x.status(), 4);
        x.row(9, 0, 0);
        c.due("BAD leaves it", x.status(), 4);
        x.row(0, 0, 0);
        c.due("row", x.status(), 0);
        x.set(1, 0, 0);
        c.due("NULL", x.status(), 1);
        x.set(0, 0, 0);
        c.due("PLACE", x.status(), 2);
        x.row(1, 1, 1);
        x.set(2, 0, 0);
        x.set(1, 0, 0);
        c.due("set", x.status(), 0);
        x.set(2, 0, 0);
        x.copy(1, 0, 1, 0, 1);
        c.due("copy", x.status(), 0);
        x.copy(0, 0, 1, 0, 0);
        c.due("STORE", x.status(), 5);
        x.feed(0, 9);
        x.shown(0, 0);
        x.soon(-1);
        x.ask(0, 0);
        c.due("calls without a ROW leave it", x.status(), 5);
        x.drop(1);
        c.due("drop", x.status(), 0);
        x.as(0, 4);
        c.due("KIND", x.status(), 3);
        x.as(0, 6);
        c.due("as BAD leaves it", x.status(), 3);
        x.as(0, 0);
        c.due("as", x.status(), 0);
        foretold(c, x);
    }

    private static void foretold(Checks c, YesterdayScale x) {
        x.fits(2, -1, 0);
        c.due("fits NULL", x.status(), 1);
        Checks.tell(x, 2, -2);
        x.as(0, 4);
        c.due("fits BAD item", x.fits(2, -1, 0), Checks.BAD);
        c.due("an ITEM that is BAD leaves it", x.status(), 3);
        x.set(2, 0, 7);
        x.as(0, 4);
        x.fits(2, -1, 0);
        c.due("fits", x.status(), 0);
        x.as(0, 4);
        x.sure(2, 0);
        c.due("sure", x.status(), 0);
        x.as(0, 4);
        x.gap(2, 0);
        c.due("gap", x.status(), 0);
        x.as(0, 4);
        x.wrong(2, 1);
        c.due("wrong", x.status(), 0);
        x.as(0, 4);
        x.laws(2);
        c.due("laws", x.status(), 0);
        x.sure(0, 0);
        c.due("sure PLACE", x.status(), 2);
        x.row(1, 0, -1);
        x.gap(0, 0);
        c.due("gap PLACE", x.status(), 2);
        x.laws(3);
        c.due("laws NULL", x.status(), 1);
    }
}
