/** Promises 6 to 8: the tape, PORTS read from it, and FAULTS. */
public final class TapeTest {
    public static void main(String[] args) {
        Checks c = new Checks("Tape");
        feed(c);
        port(c);
        faultsOfLaw(c);
        faultsOfThings(c);
        faultsOfDays(c);
        allStays(c);
        c.end();
    }

    private static void feed(Checks c) {
        YesterdayScale x = new YesterdayScale();
        c.due("feed 0", x.feed(0, 0), Checks.BAD);
        c.due("feed 9", x.feed(0, 9), Checks.BAD);
        c.due("feed -1", x.feed(0, -1), Checks.BAD);
        for (int i = 1; i <= 49; i++) {
            c.due("feed 8", x.feed(0x2020202020202020L, 8), 8 * i);
        }
        c.due("feed 7", x.feed(0x20202020202020L, 7), 399);
        c.due("two are too many", x.feed(0, 2), Checks.FULL);
        c.due("BAD ahead of FULL", x.feed(0, 9), Checks.BAD);
        c.due("none came", x.count(6), 399);
        c.due("one fits", x.feed(' ', 1), 400);
        c.due("one is too many", x.feed(' ', 1), Checks.FULL);
        c.due("all between: the end", x.port(), -1000500);
        c.due("fault 1", x.fault(), 1);
        c.due("empty then", x.count(6), 0);
        // Higher bytes than the lowest n are left out; the highest of those comes first.
        x.feed(0x5858585858006C61L, 2);
        x.feed(0x77203020302032L, 7);
        x.feed(';', 1);
        c.due("law 0 0 2;", x.port(), 0);
    }

    private static void port(Checks c) {
        YesterdayScale x = new YesterdayScale();
        c.due("packed", read(x, "law3 1 200;thing fish7;day1;"), 1);
        c.due("KEEPS", x.count(3), 3);
        c.due("HALF", x.count(4), 1);
        c.due("TOP", x.count(5), 200);
        c.due("spread", read(x, "\n law \n 000 01\n002 ;  thing\nsalt 007 ;\nday\n001\n;\n"), 1);
        c.due("TOP", x.count(5), 2);
        c.due("WEIGHT", x.heavy(0, -1), 7);
        c.due("SET", x.shown(0, 0), 1);
        c.due("law alone", read(x, "law 0 0 2;"), 0);
        c.due("THINGS gone", x.count(1), 0);
        c.due("4 things, 12 days", read(x, "law 1 0 9;thing salt 0;thing fish 1;thing stone 2;thing whale 3;"
            + "day 0;day 1;day 2;day 3;day 4;day 5;day 6;day 7;day 8;day 9;day 10;day 15;"), 12);
        c.due("no fault so far", x.fault(), 0);
    }

    private static void faultsOfLaw(Checks c) {
        fault(c, "", 0, 1);
        fault(c, "  ", 2, 1);
        fault(c, "lawx 0 0 2;", 0, 1);
        fault(c, "la", 0, 1);
        fault(c, "lawz 0 0 2;", 0, 1);
        fault(c, "law 0 0 2;zthing salt 1;", 10, 1);
        fault(c, "Law 0 0 2;", 0, 1);
        fault(c, "law", 3, 1);
        fault(c, "law ;", 4, 1);
        fault(c, "law 4 0 2;", 4, 2);
        fault(c, "law 1000 0 2;", 4, 1);
        fault(c, "law 0000 0 2;", 4, 1);
        fault(c, "law 99999999999999999999 0 2;", 4, 1);
        fault(c, "law 0 2 2;", 6, 2);
        fault(c, "law 0 0 1;", 8, 2);
        fault(c, "law 0 0 201;", 8, 2);
        fault(c, "law 0 0 999;", 8, 2);
        fault(c, "law 0 0 2", 9, 1);
        fault(c, "law 0 0 2  ", 11, 1);
        fault(c, "law 0 0 2 2;", 10, 1);
        fault(c, "law 0 0 2;;", 10, 1);
        fault(c, "law 0 0 2;law 0 0 2;", 10, 1);
        fault(c, "law -1 0 2;", 4, 1);
        fault(c, "law\t0 0 2;", 3, 1);
        fault(c, "law \u00e1 0 2;", 4, 1);
        fault(c, "law 0 0 2;\u0000", 10, 1);
    }

    private static void faultsOfThings(Checks c) {
        fault(c, "law 0 0 2;thing", 15, 1);
        fault(c, "law 0 0 2;things salt 1;", 10, 1);
        fault(c, "law 0 0 2;thing pig 1;", 16, 1);
        fault(c, "law 0 0 2;thing 1;", 16, 1);
        fault(c, "law 0 0 2;thing thing 1;", 16, 1);
        fault(c, "law 0 0 2;thing salt;", 20, 1);
        fault(c, "law 0 0 2;thing whale 8;", 22, 2);
        fault(c, "law 0 0 2;thing wool 7 ", 23, 1);
        fault(c, "law 0 0 2;thing stone 7 7;", 24, 1);
        String four = "law 0 0 2;thing salt 1;thing salt 1;thing salt 1;thing salt 1;";
        fault(c, four + "thing salt 1;", four.length(), 3);
        fault(c, four + " thing pig", four.length() + 1, 3);
        fault(c, four + "thin", four.length(), 1);
    }

    private static void faultsOfDays(Checks c) {
        fault(c, "law 0 0 2;day 1;", 14, 2);
        fault(c, "law 0 0 2;thing salt 1;day 2;", 27, 2);
        fault(c, "law 0 0 2;thing salt 1;thing salt 1;day 4;", 40, 2);
        fault(c, "law 0 0 2;day;", 13, 1);
        fault(c, "law 0 0 2;day 0", 15, 1);
        fault(c, "law 0 0 2;day 0;thing salt 1;", 16, 1);
        String twelve = "law 0 0 2;" + "day 0;".repeat(12);
        fault(c, twelve + "day 0;", twelve.length(), 3);
        fault(c, twelve + "\nday", twelve.length() + 1, 3);
        fault(c, twelve + "dax 0;", twelve.length(), 1);
        // A thing behind days cannot stand there, even where there is no room for it: the least counts.
        String full = "law 0 0 2;thing salt 1;thing salt 1;thing salt 1;thing salt 1;day 0;";
        fault(c, full + "thing salt 1;", full.length(), 1);
    }

    private static void allStays(Checks c) {
        YesterdayScale x = Checks.with("law 2 1 30;thing salt 4;day 1;");
        x.day(1);
        c.due("a fault", read(x, "law 0 0 2;thing wool 1;day 1;day 2;"), -1000133);
        c.due("its number", x.fault(), 2);
        c.due("KEEPS stay", x.count(3), 2);
        c.due("THINGS stay", x.kind(0), 1);
        c.due("DAYS stay", x.count(2), 2);
        c.due("TOP stays", x.count(5), 30);
        c.due("the tape is empty", x.count(6), 0);
        c.due("read anew", read(x, "law 0 0 2;"), 0);
        c.due("the latest stays", x.fault(), 2);
        c.due("status is not touched", x.status(), 0);
    }

    private static int read(YesterdayScale x, String text) {
        Checks.feed(x, text);
        return x.port();
    }

    private static void fault(Checks c, String text, int place, int number) {
        YesterdayScale x = new YesterdayScale();
        c.due("place in " + text, read(x, text), -1000100 - place);
        c.due("number in " + text, x.fault(), number);
        c.due("no PORT by " + text, x.day(0), Checks.STATE);
    }
}
