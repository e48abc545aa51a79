/** Promises 1 and 28, and the constants. */
public final class NewObjectTest {
    public static void main(String[] args) {
        Checks c = new Checks("NewObject");
        c.due("NONE", YesterdayScale.NONE, -1000000);
        c.due("BAD", YesterdayScale.BAD, -1000001);
        c.due("STATE", YesterdayScale.STATE, -1000002);
        c.due("FULL", YesterdayScale.FULL, -1000003);
        noPort(c);
        counts(c);
        c.end();
    }

    private static void noPort(Checks c) {
        YesterdayScale x = new YesterdayScale();
        for (int what = 0; what <= 6; what++) {
            c.due("new count(" + what + ")", x.count(what), 0);
        }
        c.due("new status", x.status(), 0);
        c.due("new fault", x.fault(), 0);
        c.due("new trace", x.trace(0), Checks.NONE);
        // STATE stands ahead of BAD where it is told so.
        c.due("day", x.day(-1), Checks.STATE);
        c.due("next", x.next(-1), Checks.STATE);
        c.due("fits", x.fits(9, 9, 9), Checks.STATE);
        c.due("sure", x.sure(9, 9), Checks.STATE);
        c.due("gap", x.gap(9, 9), Checks.STATE);
        c.due("wrong", x.wrong(9, 9), Checks.STATE);
        c.due("soon", x.soon(-2), Checks.STATE);
        c.due("laws", x.laws(9), Checks.STATE);
        c.due("undo", x.undo(), Checks.STATE);
        c.due("image", x.image(0), Checks.STATE);
        c.due("image BAD first", x.image(2), Checks.BAD);
        c.due("restore", x.restore(1), Checks.STATE);
        c.due("restore BAD first", x.restore(-1), Checks.BAD);
        c.due("shown", x.shown(0, 0), Checks.BAD);
        c.due("heavy", x.heavy(0, 0), Checks.BAD);
        c.due("error", x.error(0), Checks.BAD);
        c.due("sold", x.sold(0, 1), Checks.BAD);
        c.due("kind", x.kind(0), Checks.BAD);
        c.due("as", x.as(0, 0), Checks.BAD);
        c.due("ask", x.ask(0, 0), Checks.BAD);
        c.due("status after refusals", x.status(), 0);
    }

    private static void counts(Checks c) {
        YesterdayScale x = Checks.with("law 2 1 50;thing salt 3;thing wool 1;day 1;day 2;day 3;");
        c.due("count(0)", x.count(0), 0);
        x.row(0, 0, 0);
        x.row(7, 2, 40);
        x.row(7, 1, 3);
        c.due("count(0)", x.count(0), 2);
        x.drop(0);
        c.due("count(0)", x.count(0), 1);
        c.due("count(1)", x.count(1), 2);
        c.due("count(2)", x.count(2), 3);
        c.due("count(3)", x.count(3), 2);
        c.due("count(4)", x.count(4), 1);
        c.due("count(5)", x.count(5), 50);
        c.due("count(6)", x.count(6), 0);
        x.feed(0, 3);
        c.due("count(6)", x.count(6), 3);
        c.due("count(7)", x.count(7), Checks.BAD);
        c.due("count(-1)", x.count(-1), Checks.BAD);
    }
}
