/** Promises 22 and 23: IMAGES of the PORT. */
public final class ImagesTest {
    public static void main(String[] args) {
        Checks c = new Checks("Images");
        YesterdayScale x = Checks.with("law 2 1 50;thing fish 3;thing stone 2;day 1;day 2;");
        c.due("image(-1)", x.image(-1), Checks.BAD);
        c.due("image(2)", x.image(2), Checks.BAD);
        c.due("restore(2)", x.restore(2), Checks.BAD);
        c.due("none kept", x.restore(0), Checks.STATE);
        c.due("image(0)", x.image(0), 1);
        c.due("the other is not kept", x.restore(1), Checks.STATE);
        x.row(0, 0, 5);
        x.undo();
        x.undo();
        x.day(3);
        c.due("image(1)", x.image(1), 1);
        Checks.feed(x, "law 0 0 9;thing whale 1;");
        x.port();
        x.day(1);
        c.due("restore(0)", x.restore(0), 1);
        isFirst(c, x);
        c.due("ROWS are no part of it", x.drop(0), 5);
        c.due("restore(1)", x.restore(1), 1);
        c.due("one DAY", x.count(2), 1);
        c.due("SET 3", x.shown(0, 0), 3);
        x.day(0);
        x.day(0);
        c.due("restore(1) again", x.restore(1), 1);
        c.due("the IMAGE did not change", x.count(2), 1);
        c.due("restore(0) again", x.restore(0), 1);
        isFirst(c, x);
        x.undo();
        c.due("image over image", x.image(1), 1);
        x.restore(0);
        c.due("restore(1)", x.restore(1), 1);
        c.due("one told DAY", x.shown(0, 0), 1);
        c.due("a fault leaves all", x.port(), -1000100);
        c.due("the IMAGE, too", x.restore(0), 1);
        isFirst(c, x);
        c.end();
    }

    private static void isFirst(Checks c, YesterdayScale x) {
        c.due("KEEPS", x.count(3), 2);
        c.due("HALF", x.count(4), 1);
        c.due("TOP", x.count(5), 50);
        c.due("THINGS", x.count(1), 2);
        c.due("fish", x.kind(0), 2);
        c.due("stone", x.kind(1), 4);
        c.due("WEIGHT", x.heavy(0, -1), 3);
        c.due("DAYS", x.count(2), 2);
        c.due("SET", x.shown(1, 0), 2);
        c.due("FRESH", x.shown(1, 3), 1);
        c.due("SHOWS", x.shown(1, 2), 2);
    }
}
