/** Promises 14 to 21: what rows of what was SHOWN tell, SOON, ERROR and SOLD. */
public final class ForetoldTest {
    public static void main(String[] args) {
        Checks c = new Checks("Foretold");
        refusals(c);
        fits(c);
        sure(c);
        gap(c);
        wrong(c);
        soon(c);
        soonByHalves(c);
        soonBehindAll(c);
        laws(c);
        error(c);
        sold(c);
        c.end();
    }

    private static void refusals(Checks c) {
        YesterdayScale x = Checks.with("law 1 0 100;thing salt 3;thing salt 2;day 1;day 2;");
        Checks.tell(x, 0, 3, 5);
        x.row(1, 0, 1);
        Checks.tell(x, 2, 3, -2);
        Checks.tell(x, 3, 3, 5, -2);
        refusal(c, x, 8, Checks.BAD);
        refusal(c, x, -1, Checks.BAD);
        refusal(c, x, 4, Checks.NULL);
        refusal(c, x, 1, Checks.PLACE);
        refusal(c, x, 2, Checks.BAD);
        c.due("an ITEM behind the DAYS tells nothing", x.fits(3, -1, 0), 1);
        c.due("fits thing 2", x.fits(0, 2, 0), Checks.BAD);
        c.due("fits thing -2", x.fits(0, -2, 0), Checks.BAD);
        c.due("fits w 8", x.fits(0, 0, 8), Checks.BAD);
        c.due("fits w -1", x.fits(0, 0, -1), Checks.BAD);
        c.due("fits w 8 with -1", x.fits(0, -1, 8), Checks.BAD);
        c.due("BAD ahead of NULL", x.fits(4, 2, 0), Checks.BAD);
        c.due("sure thing 2", x.sure(0, 2), Checks.BAD);
        c.due("sure thing -1", x.sure(0, -1), Checks.BAD);
        c.due("sure BAD ahead of NULL", x.sure(4, 2), Checks.BAD);
        c.due("gap day 2", x.gap(0, 2), Checks.BAD);
        c.due("gap day -1", x.gap(0, -1), Checks.BAD);
        c.due("gap BAD ahead of PLACE", x.gap(1, 2), Checks.BAD);
        c.due("wrong what 2", x.wrong(0, 2), Checks.BAD);
        c.due("wrong what -1", x.wrong(0, -1), Checks.BAD);
        c.due("wrong BAD ahead of NULL", x.wrong(4, 2), Checks.BAD);
        x.row(5, 2, 2);
        x.set(5, 0, Integer.MIN_VALUE);
        refusal(c, x, 5, Checks.BAD);
        x.set(5, 0, Integer.MAX_VALUE);
        c.due("more than any DAY could SHOW", x.fits(5, -1, 0), 0);
    }

    private static void refusal(Checks c, YesterdayScale x, int row, int due) {
        c.due("fits " + row, x.fits(row, -1, 0), due);
        c.due("sure " + row, x.sure(row, 0), due);
        c.due("gap " + row, x.gap(row, 0), due);
        c.due("wrong " + row, x.wrong(row, 0), due);
        c.due("laws " + row, x.laws(row), due);
    }

    private static void fits(Checks c) {
        YesterdayScale x = Checks.with("law 0 0 100;thing salt 3;thing salt 2;thing whale 1;day 3;day 4;");
        Checks.tell(x, 0, 5, 10);
        c.due("0 5 .. 5 0", x.fits(0, -1, 7), 6);
        c.due("3 2", x.fits(0, 0, 3), 1);
        c.due("no 6", x.fits(0, 0, 6), 0);
        c.due("whale 1", x.fits(0, 2, 1), 6);
        c.due("whale 2", x.fits(0, 2, 2), 0);
        Checks.tell(x, 0, -1, -1);
        c.due("all gaps: all worlds", x.fits(0, -1, 0), 512);
        c.due("one of eight", x.fits(0, 1, 7), 64);
        Checks.tell(x, 0, 5, 11);
        c.due("no whale weighs 11", x.fits(0, -1, 0), 0);
        YesterdayScale none = Checks.with("law 0 0 100;");
        none.row(0, 0, 0);
        c.due("one world without things", none.fits(0, -1, 0), 1);
        c.due("no thing", none.fits(0, 0, 0), Checks.BAD);
        YesterdayScale four = Checks.with("law 0 0 100;thing salt 0;thing salt 0;thing salt 0;thing salt 0;");
        four.row(0, 0, 0);
        c.due("8 by 8 by 8 by 8", four.fits(0, -1, 0), 4096);
        four.day(15);
        four.row(0, 0, 1);
        four.set(0, 0, 28);
        c.due("all 7", four.fits(0, -1, 0), 1);
        c.due("sure 7", four.sure(0, 3), 7);
        four.set(0, 0, 1);
        c.due("one of them 1", four.fits(0, -1, 0), 4);
        c.due("the last of them 1", four.fits(0, 3, 1), 1);
    }

    private static void sure(Checks c) {
        YesterdayScale x = Checks.with("law 1 0 100;thing salt 3;thing fish 2;day 1;day 3;day 2;");
        Checks.tell(x, 0, 3, -1, -1);
        c.due("sure 3", x.sure(0, 0), 3);
        c.due("the other is not", x.sure(0, 1), Checks.NONE);
        Checks.tell(x, 0, 3, 8, -1);
        c.due("sure 2", x.sure(0, 1), 2);
        Checks.tell(x, 0, 8, -1, -1);
        c.due("none fits", x.sure(0, 0), Checks.NONE);
        Checks.tell(x, 0, 0, -1, 0);
        c.due("sure 0", x.sure(0, 0), 0);
    }

    private static void gap(Checks c) {
        YesterdayScale x = Checks.with("law 1 0 100;thing salt 3;thing salt 2;day 3;day 0;day 1;");
        Checks.tell(x, 0, 5, -1, -1);
        c.due("the gap was 5", x.gap(0, 1), 5);
        c.due("no gap is told, too", x.gap(0, 0), 5);
        c.due("not sure", x.gap(0, 2), Checks.NONE);
        Checks.tell(x, 0, 99, -1, -1);
        c.due("none fits", x.gap(0, 1), Checks.NONE);
        Checks.tell(x, 0, 0, 0, -1);
        c.due("0 is no NONE", x.gap(0, 2), 0);
    }

    private static void wrong(Checks c) {
        YesterdayScale x = Checks.with("law 0 0 100;thing salt 3;day 1;day 1;day 1;day 1;");
        wrong(c, x, 0, 0, 3, 3, 3, 3);
        wrong(c, x, 1, 2, 3, 4, 3, 3);
        wrong(c, x, 2, 3, 3, 3, 4, 4);
        wrong(c, x, 3, 7, 1, 2, 3, 4);
        wrong(c, x, 1, 8, 5, -1, -1, 50);
        wrong(c, x, 4, 15, 8, 9, 10, 11);
        wrong(c, x, 0, 0, -1, -1, -1, -1);
    }

    private static void wrong(Checks c, YesterdayScale x, int many, int which, int... row) {
        Checks.tell(x, 0, row);
        c.due("how many false", x.wrong(0, 0), many);
        c.due("which false", x.wrong(0, 1), which);
    }

    private static void soon(Checks c) {
        YesterdayScale x = Checks.with("law 1 1 30;thing salt 4;thing salt 5;thing fish 3;day 1;day 2;day 4;");
        soon(c, x, 0, Checks.NONE, Checks.NONE);
        x.undo();
        soon(c, x, 1, 4, Checks.NONE);
        x.undo();
        soon(c, x, 2, 2, 4);
        x.undo();
        soon(c, x, Checks.NONE, Checks.NONE, Checks.NONE);
        x.day(1);
        soon(c, x, 2, 2, 4);
        x.image(0);
        x.day(2);
        x.day(4);
        soon(c, x, 0, Checks.NONE, Checks.NONE);
        x.restore(0);
        soon(c, x, 2, 2, 4);
        Checks.feed(x, "law 0 0 2;");
        x.port();
        soon(c, x, 0, Checks.NONE, Checks.NONE);
        c.due("k -2", x.soon(-2), Checks.BAD);
        c.due("k high", x.soon(Integer.MAX_VALUE), Checks.NONE);
        // That all weigh 7, or all 0, is sure from their sum alone.
        YesterdayScale y = Checks.with("law 0 0 200;thing salt 7;thing salt 7;thing salt 7;thing salt 7;");
        soon(c, y, 1, 15, Checks.NONE);
        c.due("nothing changes", y.count(2), 0);
        YesterdayScale z = Checks.with("law 0 0 200;thing salt 0;thing stone 0;");
        soon(c, z, 1, 3, Checks.NONE);
    }

    private static void soon(Checks c, YesterdayScale x, int many, int first, int second) {
        c.due("soon(-1)", x.soon(-1), many);
        c.due("soon(0)", x.soon(0), first);
        c.due("soon(1)", x.soon(1), second);
        c.due("soon(2)", x.soon(2), Checks.NONE);
    }

    /** What is cut off by TOP comes out on a DAY on which nothing lies. */
    private static void soonByHalves(Checks c) {
        soon(c, Checks.with("law 3 1 4;thing salt 7;"), 2, 1, 0);
        soon(c, Checks.with("law 2 1 5;thing stone 2;thing stone 3;day 3;"), 2, 0, 1);
        soon(c, Checks.with("law 0 1 3;thing fish 0;day 0;day 0;"), 2, 1, 1);
        soon(c, Checks.with("law 0 1 9;thing salt 3;thing wool 7;day 3;"), 1, 1, Checks.NONE);
    }

    private static void soonBehindAll(Checks c) {
        YesterdayScale x = Checks.with("law 0 0 200;thing salt 3;thing salt 4;");
        for (int i = 0; i < 24; i++) {
            x.day(0);
        }
        soon(c, x, 2, 1, 2);
        c.due("still 24", x.count(2), 24);
    }

    private static void laws(Checks c) {
        YesterdayScale x = Checks.with("law 2 0 100;thing salt 4;day 1;day 1;day 1;day 1;");
        laws(c, x, 255, -1, -1, -1, -1);
        laws(c, x, 255, 4, -1, -1, -1);
        laws(c, x, 4, 4, 8, 12, 12);
        laws(c, x, 8, 4, 8, 12, 16);
        laws(c, x, 12, 4, 8, 12, -1);
        laws(c, x, 2, -1, -1, -1, 8);
        laws(c, x, 17, 4, 4, 4, 4);
        laws(c, x, 32, 4, 6, 6, 6);
        laws(c, x, 192, 4, 6, 7, 7);
        laws(c, x, 0, 5, -1, -1, -1);
        YesterdayScale none = Checks.with("law 2 0 100;");
        none.row(0, 0, 0);
        c.due("no DAYS", none.laws(0), 255);
    }

    private static void laws(Checks c, YesterdayScale x, int due, int... row) {
        Checks.tell(x, 0, row);
        c.due("laws", x.laws(0), due);
    }

    private static void error(Checks c) {
        YesterdayScale x = Checks.with("law 2 0 100;thing salt 4;thing stone 1;day 1;day 1;day 1;day 1;day 2;day 0;");
        c.due("today and two more", x.error(0), 7);
        c.due("up to the stone", x.error(2), 12);
        c.due("up to the stone", x.error(3), 8);
        c.due("the stone's own", x.error(4), 48);
        c.due("the last", x.error(5), 32);
        c.due("BAD", x.error(6), Checks.BAD);
        c.due("BAD", x.error(-1), Checks.BAD);
        YesterdayScale y = Checks.with("law 3 1 2;thing salt 7;day 1;day 0;day 0;day 0;");
        c.due("7 to 8: 4 for 3, 2 for 1, 1 for 0", y.error(0), 15);
        c.due("0 to 1: cut", y.error(1), 2);
    }

    private static void sold(Checks c) {
        YesterdayScale x = Checks.with("law 1 0 10;thing salt 3;thing fish 6;thing salt 0;day 1;day 3;day 2;day 3;");
        c.due("3 then 2 (12)", x.sold(0, 1), -4);
        c.due("fish", x.sold(1, 1), -7);
        c.due("2 then 5 (15)", x.sold(1, 2), -3);
        c.due("5 then 4 (14), dried to 5", x.sold(1, 3), -6);
        c.due("does not lie there", x.sold(0, 2), Checks.BAD);
        c.due("day 0", x.sold(0, 0), Checks.BAD);
        c.due("no day 4", x.sold(0, 4), Checks.BAD);
        c.due("no day -1", x.sold(0, -1), Checks.BAD);
        c.due("no thing 3", x.sold(3, 1), Checks.BAD);
        c.due("no thing -1", x.sold(-1, 1), Checks.BAD);
        YesterdayScale y = Checks.with("law 1 0 100;thing salt 3;thing salt 4;day 0;day 3;");
        c.due("with the other", y.sold(0, 1), 4);
    }
}
