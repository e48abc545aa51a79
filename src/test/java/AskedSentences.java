/** Terms of KINDS, ASKS and THE TRACE; promises 22 to 28. */
final class AskedSentences {
    private static final String FOUR = "law 1 0 10;thing salt 3;thing fish 4;thing wool 5;thing stone 6;day 0;day 0;";
    private static final String WHALE = "law 1 0 10;thing salt 0;thing whale 7;";

    private AskedSentences() {
    }

    static void all(Sentences s) {
        kinds(s);
        size(s);
        mark(s);
        bodies(s);
        image(s);
        restore(s);
        kind(s);
        as(s);
        ask(s);
        trace(s);
        count(s);
    }

    private static void kinds(Sentences s) {
        s.says(0, "KINDS of THINGS: 0 THING; 1 SALT, a THING; 2 FISH, a SALT one; 3 WOOL, a SALT one; 4 STONE, a THING;"
            + " 5 WHALE, a STONE one");
        String[] sorts = {"salt", "fish", "wool", "stone", "whale"};
        int[] also = {0b000011, 0b000111, 0b001011, 0b010001, 0b110001};
        for (int i = 0; i < sorts.length; i++) {
            YesterdayScale x = Checks.with("law 0 0 9;thing " + sorts[i] + " 1;");
            s.due(sorts[i], x.kind(0), i + 1);
            for (int kind = 0; kind < 6; kind++) {
                s.due(sorts[i] + " as " + kind, x.as(0, kind), (also[i] >> kind & 1) == 1 ? 0 : Checks.KIND);
            }
        }
        s.says(0, "(by a whale no DAY is FRESH).");
        YesterdayScale x = Checks.with("law 1 0 90;thing whale 1;thing salt 2;day 2;day 1;");
        s.due("not FRESH", x.shown(1, 3), 0);
        s.due("12", x.shown(1, 2), 12);
        s.says(0, "By this it is asked.");
        YesterdayScale whale = Checks.with(WHALE);
        s.due("as a STONE one", whale.ask(1, 1), 1 - 2 * (7 - 100));
        s.due("23", whale.trace(0), 23);
    }

    private static void asked(Sentences s, YesterdayScale x, int thing, int what, int due, int... trace) {
        s.due("ask(" + thing + ", " + what + ")", x.ask(thing, what), due);
        for (int i = 0; i < trace.length; i++) {
            s.due("trace(" + i + ")", x.trace(i), trace[i]);
        }
        s.due("the end of the trace", x.trace(trace.length), Checks.NONE);
    }

    private static void size(Sentences s) {
        YesterdayScale x = Checks.with(FOUR);
        s.says(0, "0 SIZE: 10 lent to all THINGS: WEIGHT.");
        s.due("a stone of 6", x.ask(3, 0) + 100, 6);
        s.due("10", x.trace(1), 10);
        s.says(0, "11 of SALT ones: what 10 gives, and MARK.");
        asked(s, x, 0, 0, 3 + (0 + 2), 11, 10, 21, 20);
        s.says(0, "12 of WOOL: 0 less what 11 gives.");
        asked(s, x, 2, 0, -(5 + 2 * (2 + 2)), 12, 11, 10, 24, 21, 20);
        s.says(0, "13 of STONES: what 10 gives, less 100.");
        asked(s, x, 3, 0, 6 - 100, 13, 10);
        s.says(0, "14 of WHALES: what 13 gives, twice.");
        asked(s, Checks.with(WHALE), 1, 0, 2 * (7 - 100), 14, 13, 10);
    }

    private static void mark(Sentences s) {
        YesterdayScale x = Checks.with(FOUR);
        s.says(0, "1 MARK: 20 lent to all THINGS: its number.");
        s.due("thing 3", x.ask(3, 1) + (6 - 100), 3);
        s.due("20", x.trace(1), 20);
        s.says(0, "21 of SALT ones: what 20 gives, and how many DAYS there are.");
        asked(s, x, 0, 1, 0 + 2, 21, 20);
        x.day(0);
        asked(s, x, 0, 1, 0 + 3, 21, 20);
        x.undo();
        x.undo();
        x.undo();
        asked(s, x, 0, 1, 0, 21, 20);
        s.says(0, "22 of FISH: what 21 gives, less 1000.");
        asked(s, x, 1, 1, 1 - 1000, 22, 21, 20);
        s.says(0, "23 of STONES: what 20 gives, less SIZE.");
        asked(s, x, 3, 1, 3 - (6 - 100), 23, 20, 13, 10);
        s.says(0, "24 of WOOL: what 21 gives, twice.");
        asked(s, Checks.with(FOUR), 2, 1, 2 * (2 + 2), 24, 21, 20);
    }

    private static void bodies(Sentences s) {
        YesterdayScale x = Checks.with(FOUR);
        s.says(0, "ASKS of THINGS, by BODIES, each of which leaves its number in THE TRACE as it begins");
        asked(s, x, 2, 0, -13, 12, 11, 10, 24, 21, 20);
        s.says(0, "(the first 16):");
        for (int i = 0; i < 4; i++) {
            x.ask(2, 0);
        }
        s.due("asked often, it is no longer", x.trace(6), Checks.NONE);
        s.due("none is number 16", x.trace(16), Checks.NONE);
        s.says(0, "(Of an ask the BODY told for the KIND begins,");
        x.ask(2, 1);
        s.due("24", x.trace(0), 24);
        x.ask(1, 1);
        s.due("22", x.trace(0), 22);
        s.says(0, "else that of the nearest KIND that it is, too,");
        x.ask(1, 0);
        s.due("of FISH that of SALT", x.trace(0), 11);
        YesterdayScale whale = Checks.with(WHALE);
        whale.ask(1, 1);
        s.due("of WHALES that of STONES", whale.trace(0), 23);
        s.says(0, "else the one that is lent;");
        x.ask(3, 0);
        s.due("13 has it from what is lent", x.trace(1), 10);
        s.says(0, "SIZE, MARK within others are asked of the same THING anew.)");
        asked(s, x, 1, 0, 4 + (1 + 2 - 1000), 11, 10, 22, 21, 20);
        asked(s, whale, 1, 1, 1 - 2 * (7 - 100), 23, 20, 14, 13, 10);
    }

    private static void image(Sentences s) {
        YesterdayScale x = Checks.with(FOUR);
        s.says(22, "An IMAGE (0, 1) is kept of the PORT: 1.");
        s.due("0", x.image(0), 1);
        x.day(1);
        s.due("1", x.image(1), 1);
        x.restore(0);
        s.due("of 0", x.count(2), 2);
        x.restore(1);
        s.due("of 1", x.count(2), 3);
        x.undo();
        x.undo();
        s.due("0 over what it was", x.image(0), 1);
        x.restore(1);
        x.restore(0);
        s.due("of 0", x.count(2), 1);
        s.says(22, "BAD;");
        s.due("2", x.image(2), Checks.BAD);
        s.due("-1", x.image(-1), Checks.BAD);
        s.due("2 without a PORT", new YesterdayScale().image(2), Checks.BAD);
        s.says(22, "STATE: no PORT.");
        s.due("0", new YesterdayScale().image(0), Checks.STATE);
        s.due("1", new YesterdayScale().image(1), Checks.STATE);
    }

    private static void restore(Sentences s) {
        YesterdayScale x = Checks.with(FOUR);
        s.says(23, "The PORT is as an IMAGE kept it: 1.");
        x.image(1);
        Checks.feed(x, "law 3 1 20;thing whale 1;day 1;day 1;day 1;");
        x.port();
        x.image(0);
        s.due("1", x.restore(1), 1);
        s.due("KEEPS", x.count(3), 1);
        s.due("HALF", x.count(4), 0);
        s.due("TOP", x.count(5), 10);
        s.due("THINGS", x.count(1), 4);
        s.due("DAYS", x.count(2), 2);
        s.due("wool", x.kind(2), 3);
        s.due("its WEIGHT", x.heavy(2, -1), 5);
        s.due("a stone is one", x.day(8), 6);
        s.due("FRESH", x.shown(2, 3), 1);
        x.day(1);
        s.due("once more", x.restore(1), 1);
        s.due("what came later is not in it", x.count(2), 2);
        s.due("0", x.restore(0), 1);
        s.due("whale", x.kind(0), 5);
        s.due("SHOWS", x.shown(2, 2), 10 + 5 + 2);
        s.due("no stone", x.shown(2, 3), 0);
        s.says(23, "BAD;");
        s.due("2", x.restore(2), Checks.BAD);
        s.due("-1", x.restore(-1), Checks.BAD);
        s.due("-1 where none was kept", new YesterdayScale().restore(-1), Checks.BAD);
        s.says(23, "STATE: none was kept.");
        YesterdayScale y = Checks.with(FOUR);
        s.due("0", y.restore(0), Checks.STATE);
        y.image(0);
        s.due("1, where 0 was", y.restore(1), Checks.STATE);
        s.due("0, where 0 was", y.restore(0), 1);
        YesterdayScale none = new YesterdayScale();
        none.image(0);
        s.due("what was refused keeps none", none.restore(0), Checks.STATE);
    }

    private static void kind(Sentences s) {
        YesterdayScale x = Checks.with(FOUR);
        s.says(24, "The KIND of a THING, as told (1 to 5).");
        for (int thing = 0; thing < 4; thing++) {
            s.due("kind(" + thing + ")", x.kind(thing), thing + 1);
        }
        s.due("whale", Checks.with(WHALE).kind(1), 5);
        s.says(24, "BAD.");
        s.due("thing 4", x.kind(4), Checks.BAD);
        s.due("thing -1", x.kind(-1), Checks.BAD);
        s.due("thing 2 of two", Checks.with(WHALE).kind(2), Checks.BAD);
        s.due("no PORT", new YesterdayScale().kind(0), Checks.BAD);
    }

    private static void as(Sentences s) {
        YesterdayScale x = Checks.with(FOUR);
        s.says(25, "A THING is taken as one of a KIND (0 .. 5): its number.");
        for (int thing = 0; thing < 4; thing++) {
            s.due(thing + " as a THING", x.as(thing, 0), thing);
            s.due(thing + " as what it is", x.as(thing, thing + 1), thing);
        }
        s.due("fish as salt", x.as(1, 1), 1);
        s.due("whale as whale", Checks.with(WHALE).as(1, 5), 1);
        s.due("whale as stone", Checks.with(WHALE).as(1, 4), 1);
        s.says(25, "BAD;");
        s.due("thing 4", x.as(4, 0), Checks.BAD);
        s.due("thing -1", x.as(-1, 0), Checks.BAD);
        s.due("kind 6", x.as(0, 6), Checks.BAD);
        s.due("kind -1", x.as(0, -1), Checks.BAD);
        s.due("no PORT", new YesterdayScale().as(0, 0), Checks.BAD);
        s.says(25, "KIND: it is no such one.");
        s.due("salt as fish", x.as(0, 2), Checks.KIND);
        s.due("fish as wool", x.as(1, 3), Checks.KIND);
        s.due("wool as fish", x.as(2, 2), Checks.KIND);
        s.due("stone as whale", x.as(3, 5), Checks.KIND);
        s.due("stone as salt", x.as(3, 1), Checks.KIND);
        s.due("its number", x.status(), 3);
    }

    private static void ask(Sentences s) {
        YesterdayScale x = Checks.with(FOUR);
        s.says(26, "An ASK (0, 1) of a THING.");
        s.due("SIZE", x.ask(0, 0), 5);
        s.due("MARK", x.ask(0, 1), 2);
        s.says(26, "BAD.");
        s.due("ask 2", x.ask(0, 2), Checks.BAD);
        s.due("ask -1", x.ask(0, -1), Checks.BAD);
        s.due("thing 4", x.ask(4, 0), Checks.BAD);
        s.due("thing -1", x.ask(-1, 0), Checks.BAD);
        s.due("no PORT", new YesterdayScale().ask(0, 0), Checks.BAD);
        s.due("what is refused leaves the trace", x.trace(0), 21);
        s.says(26, "THE TRACE is empty ahead of it.");
        x.ask(2, 0);
        asked(s, x, 3, 0, 6 - 100, 13, 10);
        for (int i = 2; i < 7; i++) {
            s.due("nothing is left of the longer one", x.trace(i), Checks.NONE);
        }
    }

    private static void trace(Sentences s) {
        YesterdayScale x = Checks.with(FOUR);
        s.says(27, "Number i of THE TRACE;");
        x.ask(1, 0);
        int[] trace = {11, 10, 22, 21, 20};
        for (int i = 0; i < trace.length; i++) {
            s.due("trace(" + i + ")", x.trace(i), trace[i]);
        }
        x.day(1);
        s.due("it stays", x.trace(4), 20);
        s.says(27, "NONE.");
        s.due("behind the last", x.trace(5), Checks.NONE);
        s.due("15", x.trace(15), Checks.NONE);
        s.due("16", x.trace(16), Checks.NONE);
        s.due("most", x.trace(Integer.MAX_VALUE), Checks.NONE);
        s.due("-1", x.trace(-1), Checks.NONE);
        s.due("least", x.trace(Integer.MIN_VALUE), Checks.NONE);
        s.due("before an ask", new YesterdayScale().trace(0), Checks.NONE);
    }

    private static void count(Sentences s) {
        YesterdayScale x = Checks.with("law 2 1 50;thing salt 3;thing wool 1;day 1;day 2;day 3;");
        s.says(28, "How many: 0 ROWS,");
        s.due("none", x.count(0), 0);
        for (int row = 0; row < 8; row++) {
            x.row(row, 0, 0);
            s.due("rows", x.count(0), row + 1);
        }
        x.row(7, 1, 1);
        s.due("in place of one", x.count(0), 8);
        x.drop(0);
        s.due("one less", x.count(0), 7);
        s.says(28, "1 THINGS,");
        s.due("two", x.count(1), 2);
        s.due("none", new YesterdayScale().count(1), 0);
        s.says(28, "2 DAYS,");
        s.due("three", x.count(2), 3);
        s.due("none", new YesterdayScale().count(2), 0);
        s.says(28, "3 KEEPS,");
        s.due("2", x.count(3), 2);
        s.says(28, "4 HALF,");
        s.due("1", x.count(4), 1);
        s.says(28, "5 TOP");
        s.due("50", x.count(5), 50);
        s.says(28, "(3 to 5: 0 without a PORT),");
        for (int what = 3; what <= 5; what++) {
            s.due("count(" + what + ")", new YesterdayScale().count(what), 0);
        }
        s.says(28, "6 bytes on the tape.");
        s.due("none", x.count(6), 0);
        x.feed(0, 3);
        s.due("three", x.count(6), 3);
        x.feed(0, 8);
        s.due("eleven", x.count(6), 11);
        s.says(28, "BAD.");
        s.due("7", x.count(7), Checks.BAD);
        s.due("-1", x.count(-1), Checks.BAD);
        s.due("most", x.count(Integer.MAX_VALUE), Checks.BAD);
        s.due("least", x.count(Integer.MIN_VALUE), Checks.BAD);
    }
}
