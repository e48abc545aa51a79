/** Promises 24 to 27: KINDS, ASKS and THE TRACE. */
public final class AsksTest {
    private static final String ALL = "law 1 0 10;thing salt 3;thing fish 4;thing wool 5;thing stone 6;day 0;day 0;";

    public static void main(String[] args) {
        Checks c = new Checks("Asks");
        kinds(c);
        asks(c);
        trace(c);
        c.end();
    }

    private static void kinds(Checks c) {
        YesterdayScale x = Checks.with(ALL);
        int[] kinds = {1, 2, 3, 4};
        int[] taken = {0b000011, 0b000111, 0b001011, 0b010001};
        for (int thing = 0; thing < 4; thing++) {
            c.due("kind(" + thing + ")", x.kind(thing), kinds[thing]);
            as(c, x, thing, taken[thing]);
        }
        c.due("kind(4)", x.kind(4), Checks.BAD);
        c.due("kind(-1)", x.kind(-1), Checks.BAD);
        c.due("as(4, 0)", x.as(4, 0), Checks.BAD);
        c.due("as(-1, 0)", x.as(-1, 0), Checks.BAD);
        c.due("as(0, 6)", x.as(0, 6), Checks.BAD);
        c.due("as(0, -1)", x.as(0, -1), Checks.BAD);
        YesterdayScale y = Checks.with("law 1 0 10;thing whale 3;");
        c.due("whale", y.kind(0), 5);
        as(c, y, 0, 0b110001);
    }

    private static void as(Checks c, YesterdayScale x, int thing, int kinds) {
        for (int kind = 0; kind < 6; kind++) {
            int due = (kinds >> kind & 1) != 0 ? thing : Checks.KIND;
            c.due("as(" + thing + ", " + kind + ")", x.as(thing, kind), due);
        }
    }

    private static void asks(Checks c) {
        YesterdayScale x = Checks.with(ALL);
        ask(c, x, 0, 0, 3 + 2, 11, 10, 21, 20);
        ask(c, x, 0, 1, 2, 21, 20);
        ask(c, x, 1, 0, 4 + 1 + 2 - 1000, 11, 10, 22, 21, 20);
        ask(c, x, 1, 1, 1 + 2 - 1000, 22, 21, 20);
        ask(c, x, 2, 0, -(5 + 2 * (2 + 2)), 12, 11, 10, 24, 21, 20);
        ask(c, x, 2, 1, 2 * (2 + 2), 24, 21, 20);
        ask(c, x, 3, 0, 6 - 100, 13, 10);
        ask(c, x, 3, 1, 3 - (6 - 100), 23, 20, 13, 10);
        YesterdayScale y = Checks.with("law 1 0 10;thing salt 0;thing whale 7;");
        ask(c, y, 1, 0, 2 * (7 - 100), 14, 13, 10);
        ask(c, y, 1, 1, 1 - 2 * (7 - 100), 23, 20, 14, 13, 10);
        ask(c, y, 0, 0, 0, 11, 10, 21, 20);
        y.day(0);
        ask(c, y, 0, 0, 1, 11, 10, 21, 20);
    }

    private static void ask(Checks c, YesterdayScale x, int thing, int what, int due, int... trace) {
        c.due("ask(" + thing + ", " + what + ")", x.ask(thing, what), due);
        for (int i = 0; i < trace.length; i++) {
            c.due("trace(" + i + ")", x.trace(i), trace[i]);
        }
        c.due("the end of the trace", x.trace(trace.length), Checks.NONE);
    }

    private static void trace(Checks c) {
        YesterdayScale x = Checks.with(ALL);
        c.due("before an ask", x.trace(0), Checks.NONE);
        x.ask(2, 0);
        c.due("ask BAD", x.ask(4, 0), Checks.BAD);
        c.due("ask BAD", x.ask(-1, 0), Checks.BAD);
        c.due("ask BAD", x.ask(0, 2), Checks.BAD);
        c.due("ask BAD", x.ask(0, -1), Checks.BAD);
        c.due("what is refused leaves it", x.trace(5), 20);
        c.due("trace(6)", x.trace(6), Checks.NONE);
        c.due("trace(16)", x.trace(16), Checks.NONE);
        c.due("trace(-1)", x.trace(-1), Checks.NONE);
        c.due("trace(most)", x.trace(Integer.MAX_VALUE), Checks.NONE);
        c.due("trace(least)", x.trace(Integer.MIN_VALUE), Checks.NONE);
        x.ask(3, 0);
        c.due("empty ahead of an ask", x.trace(2), Checks.NONE);
    }
}
