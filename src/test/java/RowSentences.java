/** Terms of ROWS; promises 2 to 5 and 29. */
final class RowSentences {
    private static final int[] LOW = {Integer.MIN_VALUE, -1};

    private RowSentences() {
    }

    static void all(Sentences s) {
        terms(s);
        row(s);
        set(s);
        copy(s);
        copyPlaces(s);
        drop(s);
        status(s);
        statusOfOthers(s);
    }

    /** ITEM i of a ROW, -1 to 7, of an object with the PORT of with(): what the one THING weighs by it. */
    private static int item(YesterdayScale x, int row, int lane, int i) {
        x.row(7, lane, 1);
        x.copy(row, i, 7, 0, 1);
        return x.sure(7, 0);
    }

    private static YesterdayScale with() {
        return Checks.with("law 0 0 200;thing salt 7;day 1;");
    }

    private static void terms(Sentences s) {
        YesterdayScale x = with();
        s.says(0, "ROWS 0 .. 7 are missing (at first)");
        for (int row = 0; row < 8; row++) {
            s.due("drop " + row, x.drop(row), Checks.NULL);
        }
        s.due("no row 8", x.drop(8), Checks.BAD);
        s.due("no row -1", x.drop(-1), Checks.BAD);
        s.due("none counted", x.count(0), 0);
        s.says(0, ", or have a LANE (0 bytes, 1 shorts, 2 ints)");
        int[] lowest = {-128, -32768, Integer.MIN_VALUE};
        for (int lane = 0; lane < 3; lane++) {
            x.row(lane, lane, 1);
            s.due("the lowest of " + lane, x.set(lane, 0, lowest[lane]), lowest[lane]);
            s.due("the highest of " + lane, x.set(lane, 0, -1 - lowest[lane]), -1 - lowest[lane]);
            s.due("one less than the lowest of " + lane, x.set(lane, 0, lowest[lane] - 1), -1 - lowest[lane]);
        }
        s.says(0, "and 0 to 40 ITEMS");
        s.due("0", x.row(3, 0, 0), 0);
        s.due("40", x.row(4, 0, 40), 40);
        s.due("the last of 40", x.set(4, 39, 1), 1);
        s.due("41", x.row(5, 0, 41), Checks.BAD);
        s.says(0, ", 0 at first.");
        for (int lane = 0; lane < 3; lane++) {
            x.row(5, lane, 40);
            s.due("the first of 40", item(x, 5, lane, 0), 0);
            s.due("the last of 40", item(x, 5, lane, 39), 0);
        }
    }

    private static void row(Sentences s) {
        YesterdayScale x = with();
        s.says(2, "A ROW of a LANE with n ITEMS, in place of what is there: n.");
        s.due("a row of bytes", x.row(0, 0, 5), 5);
        x.set(0, 0, 6);
        x.set(0, 4, 6);
        s.due("a row of ints in its place", x.row(0, 2, 3), 3);
        s.due("of three", x.set(0, 3, 0), Checks.PLACE);
        s.due("of ints", x.set(0, 2, 70000), 70000);
        s.due("new", item(x, 0, 2, 0), 0);
        x.row(0, 2, 5);
        s.due("what lay behind three is new, too", item(x, 0, 2, 4), 0);
        s.due("one of none in its place", x.row(0, 2, 0), 0);
        s.due("of none", x.set(0, 0, 0), Checks.PLACE);
        s.due("the same row", x.drop(0), 0);
        s.says(2, "BAD: ROW,");
        s.due("8", x.row(8, 0, 1), Checks.BAD);
        s.due("7", x.row(7, 0, 1), 1);
        s.due("0", x.row(0, 0, 1), 1);
        for (int low : LOW) {
            s.due("low", x.row(low, 0, 1), Checks.BAD);
        }
        s.says(2, "LANE,");
        s.due("lane 3", x.row(0, 3, 1), Checks.BAD);
        s.due("lane 2", x.row(0, 2, 1), 1);
        for (int low : LOW) {
            s.due("low", x.row(0, low, 1), Checks.BAD);
        }
        s.says(2, "n above 40;");
        s.due("41", x.row(0, 0, 41), Checks.BAD);
        s.due("most", x.row(0, 0, Integer.MAX_VALUE), Checks.BAD);
        s.due("40", x.row(0, 0, 40), 40);
        s.says(2, "SIZE.");
        s.due("none", x.row(0, 0, 0), 0);
        for (int low : LOW) {
            s.due("fewer", x.row(0, 0, low), Checks.SIZE);
        }
        s.due("BAD first", x.row(8, 0, -1), Checks.BAD);
    }

    private static void set(Sentences s) {
        YesterdayScale x = with();
        x.row(0, 0, 2);
        x.row(1, 1, 2);
        x.row(2, 2, 2);
        s.says(3, "ITEM i becomes v,");
        s.due("5", x.set(0, 1, 5), 5);
        s.due("it is", item(x, 0, 0, 1), 5);
        s.due("the other is not", item(x, 0, 0, 0), 0);
        s.says(3, "its lowest bits, as many as the LANE has: what it is then.");
        s.due("8 bits", x.set(0, 0, 0x12345680), -128);
        s.due("8 bits", x.set(0, 0, 0x7fffff05), 5);
        s.due("5 it is", item(x, 0, 0, 0), 5);
        s.due("16 bits", x.set(1, 0, 0x12348000), -32768);
        s.due("16 bits", x.set(1, 0, 0x7fff0006), 6);
        s.due("6 it is", item(x, 1, 1, 0), 6);
        s.due("32 bits", x.set(2, 0, 0x87654321), 0x87654321);
        s.says(3, "BAD: ROW;");
        s.due("8", x.set(8, 0, 0), Checks.BAD);
        for (int low : LOW) {
            s.due("low", x.set(low, 0, 0), Checks.BAD);
        }
        s.due("7 is missing, not BAD", missing(7).set(7, 0, 0), Checks.NULL);
        s.says(3, "NULL;");
        s.due("3", x.set(3, 0, 0), Checks.NULL);
        s.due("ahead of PLACE", x.set(3, 40, 0), Checks.NULL);
        s.says(3, "PLACE.");
        s.due("behind the last", x.set(0, 2, 0), Checks.PLACE);
        s.due("far behind it", x.set(0, Integer.MAX_VALUE, 0), Checks.PLACE);
        s.due("the last", x.set(0, 1, 0), 0);
        for (int low : LOW) {
            s.due("low", x.set(0, low, 0), Checks.PLACE);
        }
    }

    private static YesterdayScale missing(int row) {
        YesterdayScale x = with();
        x.row(row, 0, 4);
        x.drop(row);
        return x;
    }

    private static void items(Sentences s, YesterdayScale x, int row, int... due) {
        for (int i = 0; i < due.length; i++) {
            s.due("item " + i, item(x, row, 2, i), due[i]);
        }
    }

    private static void copy(Sentences s) {
        YesterdayScale x = with();
        s.says(4, "n ITEMS of a from i on come to b from j on,");
        Checks.tell(x, 0, 1, 2, 3, 4, 5);
        Checks.tell(x, 1, 7, 7, 7, 7, 7);
        s.due("two", x.copy(0, 1, 1, 3, 2), 2);
        items(s, x, 1, 7, 7, 7, 2, 3);
        items(s, x, 0, 1, 2, 3, 4, 5);
        s.says(4, "as they were ahead: n.");
        s.due("forward", x.copy(0, 0, 0, 1, 4), 4);
        items(s, x, 0, 1, 1, 2, 3, 4);
        s.due("back", x.copy(0, 2, 0, 0, 3), 3);
        items(s, x, 0, 2, 3, 4, 3, 4);
        s.due("onto themselves", x.copy(0, 0, 0, 0, 5), 5);
        items(s, x, 0, 2, 3, 4, 3, 4);
        s.says(4, "BAD: ROWS;");
        s.due("a", x.copy(8, 0, 0, 0, 0), Checks.BAD);
        s.due("b", x.copy(0, 0, 8, 0, 0), Checks.BAD);
        for (int low : LOW) {
            s.due("a low", x.copy(low, 0, 0, 0, 0), Checks.BAD);
            s.due("b low", x.copy(0, 0, low, 0, 0), Checks.BAD);
        }
        s.due("b BAD, a missing", x.copy(6, 0, 8, 0, 0), Checks.BAD);
        s.due("a BAD, b missing", x.copy(8, 0, 6, 0, 0), Checks.BAD);
        s.says(4, "NULL;");
        s.due("a", x.copy(6, 0, 0, 0, 0), Checks.NULL);
        s.due("b", x.copy(0, 0, 6, 0, 0), Checks.NULL);
        s.due("both", x.copy(6, 0, 6, 0, 0), Checks.NULL);
        s.due("ahead of PLACE", x.copy(6, -1, 0, 0, 0), Checks.NULL);
        s.says(4, "STORE;");
        for (int lane = 0; lane < 3; lane++) {
            x.row(5, lane, 5);
            s.due("from lane 2", x.copy(0, 0, 5, 0, 5), lane == 2 ? 5 : Checks.STORE);
            s.due("to lane 2", x.copy(5, 0, 0, 0, 0), lane == 2 ? 0 : Checks.STORE);
        }
        x.row(5, 1, 5);
        s.due("ahead of PLACE", x.copy(0, 0, 5, 0, -1), Checks.STORE);
        x.row(4, 0, 5);
        s.due("of bytes and shorts", x.copy(4, 0, 5, 0, 1), Checks.STORE);
    }

    private static void copyPlaces(Sentences s) {
        YesterdayScale x = with();
        x.row(0, 2, 3);
        x.row(1, 2, 5);
        s.says(4, "PLACE (i, j, n below 0,");
        for (int low : LOW) {
            s.due("i", x.copy(0, low, 1, 0, 1), Checks.PLACE);
            s.due("j", x.copy(0, 0, 1, low, 1), Checks.PLACE);
            s.due("n", x.copy(0, 0, 1, 0, low), Checks.PLACE);
            s.due("i, for none", x.copy(0, low, 1, 0, 0), Checks.PLACE);
            s.due("j, for none", x.copy(0, 0, 1, low, 0), Checks.PLACE);
        }
        s.says(4, "or beyond an end).");
        s.due("up to both ends", x.copy(0, 0, 1, 2, 3), 3);
        s.due("none at both ends", x.copy(0, 3, 1, 5, 0), 0);
        s.due("beyond a's", x.copy(0, 1, 1, 0, 3), Checks.PLACE);
        s.due("beyond b's", x.copy(0, 0, 1, 3, 3), Checks.PLACE);
        s.due("none behind a's", x.copy(0, 4, 1, 0, 0), Checks.PLACE);
        s.due("none behind b's", x.copy(0, 0, 1, 6, 0), Checks.PLACE);
        s.due("one at a's", x.copy(0, 3, 1, 0, 1), Checks.PLACE);
        s.due("one at b's", x.copy(0, 0, 1, 5, 1), Checks.PLACE);
        int most = Integer.MAX_VALUE;
        s.due("i far", x.copy(0, most, 1, 0, 1), Checks.PLACE);
        s.due("j far", x.copy(0, 0, 1, most, 1), Checks.PLACE);
        s.due("n far", x.copy(0, 0, 1, 0, most), Checks.PLACE);
        s.due("i and n wrap around", x.copy(0, most, 1, 0, most), Checks.PLACE);
        s.due("j and n wrap around", x.copy(1, 1, 1, 1, most), Checks.PLACE);
    }

    private static void drop(Sentences s) {
        YesterdayScale x = with();
        x.row(0, 0, 0);
        x.row(7, 2, 40);
        s.says(5, "A ROW is missing from now on: how many ITEMS it had.");
        s.due("40", x.drop(7), 40);
        s.due("is missing", x.set(7, 0, 0), Checks.NULL);
        s.due("the other is there", x.count(0), 1);
        s.due("0", x.drop(0), 0);
        s.due("none is there", x.count(0), 0);
        s.due("made anew", x.row(7, 2, 1), 1);
        s.due("there again", x.set(7, 0, 3), 3);
        s.says(5, "BAD;");
        s.due("8", x.drop(8), Checks.BAD);
        for (int low : LOW) {
            s.due("low", x.drop(low), Checks.BAD);
        }
        s.says(5, "NULL.");
        s.due("never made", x.drop(1), Checks.NULL);
        x.drop(7);
        s.due("dropped", x.drop(7), Checks.NULL);
    }

    private static void status(Sentences s) {
        YesterdayScale x = with();
        s.says(29, "0: it had none, or there was none.");
        s.due("new", new YesterdayScale().status(), 0);
        x.drop(0);
        x.row(0, 2, 2);
        s.due("it had none", x.status(), 0);
        s.says(29, "Of the latest call with a ROW,");
        x.drop(6);
        s.due("drop NULL", x.status(), 1);
        x.set(0, 2, 0);
        s.due("set PLACE", x.status(), 2);
        x.row(1, 0, -1);
        s.due("row SIZE", x.status(), 4);
        x.row(1, 0, 1);
        s.due("row", x.status(), 0);
        x.copy(0, 0, 1, 0, 0);
        s.due("copy STORE", x.status(), 5);
        x.set(0, 0, -1);
        s.due("set", x.status(), 0);
        x.copy(0, 3, 0, 0, 0);
        s.due("copy PLACE", x.status(), 2);
        x.copy(0, 0, 0, 0, 0);
        s.due("copy", x.status(), 0);
        x.set(5, 0, 0);
        x.drop(1);
        s.due("drop", x.status(), 0);
        x.row(2, 0, 0);
        told(s, x, 2, 2);
        told(s, x, 3, 1);
        told(s, x, 0, 0);
        s.says(29, "or as(),");
        x.as(0, 2);
        s.due("KIND", x.status(), 3);
        x.as(0, 1);
        s.due("none", x.status(), 0);
        s.says(29, ": the number of its FINDING;");
        x.as(0, 5);
        s.due("of as()", x.status(), 3);
        s.due("asked again", x.status(), 3);
    }

    /** A FINDING other than the one that is due stands ahead of each call. */
    private static void told(Sentences s, YesterdayScale x, int row, int due) {
        for (int call = 0; call < 5; call++) {
            x.row(4, 0, -1);
            switch (call) {
                case 0 -> x.fits(row, -1, 0);
                case 1 -> x.sure(row, 0);
                case 2 -> x.gap(row, 0);
                case 3 -> x.wrong(row, 0);
                default -> x.laws(row);
            }
            s.due("call " + call + " with row " + row, x.status(), due);
        }
    }

    private static void statusOfOthers(Sentences s) {
        s.says(29, "that was not BAD, STATE, FULL");
        YesterdayScale none = new YesterdayScale();
        none.row(0, 0, -1);
        none.fits(0, -1, 0);
        none.sure(0, 0);
        none.gap(0, 0);
        none.wrong(0, 0);
        none.laws(0);
        s.due("STATE", none.status(), 4);
        none.row(8, 0, 1);
        none.set(8, 0, 1);
        none.copy(8, 0, 1, 0, 0);
        none.drop(8);
        none.as(0, 0);
        s.due("BAD", none.status(), 4);
        YesterdayScale x = with();
        Checks.tell(x, 0, -2);
        x.as(0, 4);
        x.as(0, 6);
        s.due("as BAD", x.status(), 3);
        s.due("an ITEM is BAD", x.fits(0, -1, 0), Checks.BAD);
        x.sure(0, 0);
        x.gap(0, 0);
        x.wrong(0, 0);
        x.laws(0);
        s.due("BAD by an ITEM", x.status(), 3);
        x.fits(8, -1, 0);
        x.sure(0, 1);
        x.gap(0, 1);
        x.wrong(0, 2);
        x.laws(8);
        s.due("BAD by a number", x.status(), 3);
        Checks.feed(x, " ".repeat(400));
        x.feed(0, 1);
        s.due("FULL", x.status(), 3);
        withoutRow(x);
        s.due("calls without a ROW", x.status(), 3);
    }

    private static void withoutRow(YesterdayScale x) {
        x.port();
        x.fault();
        x.day(1);
        x.undo();
        x.shown(0, 0);
        x.heavy(0, 0);
        x.next(0);
        x.soon(-1);
        x.error(0);
        x.sold(0, 0);
        x.image(0);
        x.restore(0);
        x.kind(0);
        x.ask(0, 0);
        x.trace(0);
        x.count(0);
    }
}
