/** Terms of the tape, TOKENS and FAULTS; promises 1 and 6 to 8. */
final class TextSentences {
    private static final String LAW = "law 0 0 2;";
    private static final String FOUR = LAW + "thing salt 1;thing fish 2;thing wool 3;thing stone 4;";
    private static final String TWELVE = LAW + "day 0;".repeat(12);

    private TextSentences() {
    }

    static void all(Sentences s) {
        none(s);
        feed(s);
        tokens(s);
        law(s);
        things(s);
        days(s);
        replaced(s);
        faults(s);
        port(s);
        fault(s);
    }

    private static int read(YesterdayScale x, String text) {
        Checks.feed(x, text);
        return x.port();
    }

    private static void whole(Sentences s, String text, int days) {
        s.due("port of " + text, read(new YesterdayScale(), text), days);
    }

    private static void broken(Sentences s, String text, int place, int number) {
        YesterdayScale x = new YesterdayScale();
        s.due("port of " + text, read(x, text), -1000100 - place);
        s.due("fault of " + text, x.fault(), number);
    }

    private static void none(Sentences s) {
        YesterdayScale x = new YesterdayScale();
        s.says(1, "No PORT.");
        s.due("next", x.next(0), Checks.STATE);
        s.due("image", x.image(0), Checks.STATE);
        s.due("THINGS", x.count(1), 0);
        s.due("DAYS", x.count(2), 0);
        s.due("TOP", x.count(5), 0);
    }

    private static void feed(Sentences s) {
        YesterdayScale x = new YesterdayScale();
        s.says(6, "The lowest n bytes of w");
        x.feed(0xFFFFFFFF6C61L, 2);
        s.due("la", x.feed(0x3030303030303077L, 1), 3);
        s.due("w", read(x, " 1 0 9;"), 0);
        s.says(6, "(1 to 8)");
        s.due("1", x.feed(' ', 1), 1);
        s.due("8", x.feed(0x2020202020202020L, 8), 9);
        s.says(6, ", the highest of them first, come behind the tape: how many it has.");
        s.due("law 3 0", x.feed(0x6C617720332030L, 7), 16);
        s.due(" 77;", x.feed(0x2037373BL, 4), 20);
        x.port();
        s.due("KEEPS", x.count(3), 3);
        s.due("TOP", x.count(5), 77);
        s.says(6, "BAD: n;");
        s.due("0", x.feed(0, 0), Checks.BAD);
        s.due("9", x.feed(0, 9), Checks.BAD);
        s.due("-1", x.feed(0, -1), Checks.BAD);
        s.due("least", x.feed(0, Integer.MIN_VALUE), Checks.BAD);
        s.due("most", x.feed(0, Integer.MAX_VALUE), Checks.BAD);
        s.due("none came", x.count(6), 0);
        s.says(0, "TEXTS: THE TAPE has at most 400 bytes");
        Checks.feed(x, LAW + " ".repeat(390));
        s.due("400", x.count(6), 400);
        s.due("one more", x.feed(' ', 1), Checks.FULL);
        s.due("all are read", x.port(), 0);
        s.says(6, "FULL: none comes.");
        Checks.feed(x, " ".repeat(396) + "l");
        s.due("4 where 3 have room", x.feed(0x61772020L, 4), Checks.FULL);
        s.due("none came", x.count(6), 397);
        s.due("3", x.feed(0x617720L, 3), 400);
        s.due("law, and the end", x.port(), -1000500);
        s.due("room again", x.feed(' ', 8), 8);
    }

    private static void tokens(Sentences s) {
        s.says(0, "TOKENS: NAMES (letters a to z)");
        broken(s, "Law 0 0 2;", 0, 1);
        broken(s, "laW 0 0 2;", 0, 1);
        broken(s, "law` 0 0 2;", 3, 1);
        broken(s, "law{ 0 0 2;", 3, 1);
        broken(s, "lawn 0 0 2;", 0, 1);
        broken(s, "la w 0 0 2;", 0, 1);
        broken(s, LAW + "things salt 1;", 10, 1);
        broken(s, LAW + "zzz 1;", 10, 1);
        broken(s, LAW + "aday 0;", 10, 1);
        broken(s, LAW + "dayz 0;", 10, 1);
        s.says(0, "NUMBERS (figures, 3 at most)");
        whole(s, "law 003 001 009;", 0);
        broken(s, "law 0003 0 2;", 4, 1);
        broken(s, "law 0 0 2000;", 8, 1);
        broken(s, "law 0 0 0200;", 8, 1);
        broken(s, "law / 0 2;", 4, 1);
        broken(s, "law : 0 2;", 4, 1);
        broken(s, "law -0 0 2;", 4, 1);
        broken(s, LAW + "thing salt 0007;", 21, 1);
        broken(s, LAW + "day 0000;", 14, 1);
        s.says(0, "SIGNS ;");
        broken(s, "law 0 0 2:", 9, 1);
        broken(s, "law 0 0 2,", 9, 1);
        broken(s, "law 0 0 2 <", 10, 1);
        whole(s, "law 0 0 2 ;", 0);
        s.says(0, "bytes 32 and 10 between.");
        whole(s, " \n law\n0  0\n\n2 \n;\n thing\nsalt 1\n;day \n 1 ; \n", 1);
        broken(s, "law\t0 0 2;", 3, 1);
        broken(s, "law 0\r0 2;", 5, 1);
        broken(s, "law 0 0 2;\u0000", 10, 1);
        broken(s, "law 0 0 2;\u0080", 10, 1);
        broken(s, "law 0 0 2;\u00a0", 10, 1);
        broken(s, "law 0 0 2;\u001f", 10, 1);
        broken(s, "law 0 0 2;!", 10, 1);
        broken(s, "law 0 0 2;\u000b", 10, 1);
        broken(s, "law 0 0 2;\u008a", 10, 1);
        broken(s, "law 0 0 2;\u00bb", 10, 1);
        broken(s, "law 0 0 2;\u00ff", 10, 1);
    }

    private static void law(Sentences s) {
        s.says(0, "port: law { thing } { day }.");
        whole(s, LAW, 0);
        whole(s, LAW + "thing salt 1;", 0);
        whole(s, LAW + "day 0;", 1);
        whole(s, LAW + "thing salt 1;thing salt 1;day 0;day 3;", 2);
        broken(s, LAW + LAW, 10, 1);
        broken(s, LAW + "day 0;thing salt 1;", 16, 1);
        broken(s, "thing salt 1;", 0, 1);
        broken(s, "day 0;", 0, 1);
        s.says(0, "law: 'law' KEEPS HALF TOP ';'");
        YesterdayScale x = Checks.with("law 3 1 200;");
        s.due("KEEPS", x.count(3), 3);
        s.due("HALF", x.count(4), 1);
        s.due("TOP", x.count(5), 200);
        broken(s, "law", 3, 1);
        broken(s, "law 0", 5, 1);
        broken(s, "law 0 0", 7, 1);
        broken(s, "law 0 0 2", 9, 1);
        broken(s, "law 0 0;", 7, 1);
        broken(s, "law 0;", 5, 1);
        broken(s, "law;", 3, 1);
        broken(s, "law 0 0 2 2;", 10, 1);
        broken(s, "0 0 2;", 0, 1);
        s.says(0, "(0 to 3; 0 or 1; 2 to 200).");
        whole(s, "law 0 0 2;", 0);
        whole(s, "law 3 1 200;", 0);
        broken(s, "law 4 0 2;", 4, 2);
        broken(s, "law 999 0 2;", 4, 2);
        broken(s, "law 0 2 2;", 6, 2);
        broken(s, "law 0 999 2;", 6, 2);
        broken(s, "law 0 0 1;", 8, 2);
        broken(s, "law 0 0 0;", 8, 2);
        broken(s, "law 0 0 201;", 8, 2);
        broken(s, "law 0 0 999;", 8, 2);
    }

    private static void things(Sentences s) {
        s.says(0, "thing: 'thing' SORT WEIGHT ';'");
        YesterdayScale x = Checks.with(LAW + "thing whale 3;");
        s.due("SORT", x.kind(0), 5);
        s.due("WEIGHT", x.heavy(0, -1), 3);
        broken(s, LAW + "thing", 15, 1);
        broken(s, LAW + "thing 3 whale;", 16, 1);
        broken(s, LAW + "thing salt", 20, 1);
        broken(s, LAW + "thing salt;", 20, 1);
        broken(s, LAW + "thing salt 1", 22, 1);
        broken(s, LAW + "thing salt 1 1;", 23, 1);
        broken(s, LAW + "salt 1;", 10, 1);
        s.says(0, "(SORT: 'salt' | 'fish' | 'stone' | 'wool' | 'whale'; 0 to 7;");
        String[] sorts = {"salt", "fish", "wool", "stone", "whale"};
        for (int i = 0; i < sorts.length; i++) {
            for (int weight = 0; weight < 8; weight += 7) {
                x = Checks.with(LAW + "thing " + sorts[i] + " " + weight + ";");
                s.due(sorts[i], x.kind(0), i + 1);
                s.due(sorts[i] + " weighs", x.heavy(0, -1), weight);
            }
            int place = 17 + sorts[i].length();
            broken(s, LAW + "thing " + sorts[i] + " 8;", place, 2);
            broken(s, LAW + "thing " + sorts[i] + " 999;", place, 2);
        }
        for (String other : new String[] {"thing", "day", "law", "sal", "salts", "whales", "pig", "woo", "1", ";"}) {
            broken(s, LAW + "thing " + other + " 1;", 16, 1);
        }
        s.says(0, "THINGS 0 .. 3, 4 at most)");
        x = Checks.with(FOUR);
        s.due("4", x.count(1), 4);
        for (int i = 0; i < 4; i++) {
            s.due("weight of " + i, x.heavy(i, -1), i + 1);
        }
        s.due("none is 4", x.heavy(4, -1), Checks.BAD);
        broken(s, FOUR + "thing salt 1;", FOUR.length(), 3);
    }

    private static void days(Sentences s) {
        s.says(0, "day: 'day' SET ';'");
        s.due("SET", Checks.with(FOUR + "day 9;").shown(0, 0), 9);
        broken(s, LAW + "day", 13, 1);
        broken(s, LAW + "day;", 13, 1);
        broken(s, LAW + "day day 0;", 14, 1);
        broken(s, LAW + "day 0", 15, 1);
        broken(s, LAW + "day 0 0;", 16, 1);
        s.says(0, "(THINGS told, as bits, 0 also;");
        String text = LAW;
        for (int things = 0; things <= 4; things++) {
            int all = (1 << things) - 1;
            whole(s, text + "day 0;day " + all + ";", 2);
            broken(s, text + "day " + (all + 1) + ";", text.length() + 4, 2);
            broken(s, text + "day 0;day 999;", text.length() + 10, 2);
            text += "thing salt 1;";
        }
        s.says(0, "12 at most)");
        whole(s, TWELVE, 12);
        broken(s, TWELVE + "day 0;", TWELVE.length(), 3);
    }

    private static void replaced(Sentences s) {
        s.says(0, "A PORT that is read stands in place of the one before (none at first);");
        YesterdayScale x = new YesterdayScale();
        s.due("none", x.next(0), Checks.STATE);
        read(x, FOUR + "day 15;day 7;");
        x.day(1);
        s.due("the next", read(x, "law 2 1 20;thing whale 7;day 1;"), 1);
        s.due("KEEPS", x.count(3), 2);
        s.due("HALF", x.count(4), 1);
        s.due("TOP", x.count(5), 20);
        s.due("THINGS", x.count(1), 1);
        s.due("whale", x.kind(0), 5);
        s.due("no thing 1", x.kind(1), Checks.BAD);
        s.due("no day 1", x.shown(1, 0), Checks.BAD);
        read(x, "law 0 0 50;thing stone 1;day 1;");
        read(x, "law 1 0 50;thing salt 1;day 1;day 1;");
        s.due("no stone is there any more", x.shown(1, 3), 0);
        s.due("nothing begins anew", x.shown(1, 2), 2);
        s.due("one without anything", read(x, LAW), 0);
        s.due("THINGS", x.count(1), 0);
        s.says(0, "its DAYS, 0 on, are those told.");
        read(x, FOUR + "day 5;day 0;day 10;");
        s.due("three", x.count(2), 3);
        s.due("day 0", x.shown(0, 0), 5);
        s.due("day 1", x.shown(1, 0), 0);
        s.due("day 2", x.shown(2, 0), 10);
        s.due("no day 3", x.shown(3, 0), Checks.BAD);
    }

    private static void faults(Sentences s) {
        s.says(0, "FAULTS, the first TOKEN that has one (its first byte)");
        broken(s, "law 4 2 1;", 4, 2);
        broken(s, "law 0  777 1;", 7, 2);
        broken(s, LAW + "\n thing  pigs 9;", 19, 1);
        broken(s, LAW + "thing salt 8;thing pig 8;", 21, 2);
        broken(s, "law 4 ?", 4, 2);
        s.says(0, ", of one TOKEN the least:");
        // A thing behind a day cannot stand there; that there is no room for it, either, is the greater number.
        broken(s, FOUR + "day 0;thing salt 1;", FOUR.length() + 6, 1);
        broken(s, TWELVE + "thing salt 1;", TWELVE.length(), 1);
        broken(s, LAW + "thing 999;", 16, 1);
        broken(s, LAW + "999;", 10, 1);
        broken(s, "law 9999 0 2;", 4, 1);
        s.says(0, "1 it cannot stand there,");
        broken(s, "; law 0 0 2;", 0, 1);
        broken(s, "law law 0 0 2;", 4, 1);
        broken(s, LAW + ";", 10, 1);
        broken(s, LAW + "day 0;;", 16, 1);
        s.says(0, "or is none (the end: how many bytes there are);");
        broken(s, "", 0, 1);
        broken(s, " ", 1, 1);
        broken(s, "\n\n\n", 3, 1);
        broken(s, "law 0 0 2  ", 11, 1);
        broken(s, LAW + "thing \n", 17, 1);
        broken(s, "law 0 0 2" + " ".repeat(391), 400, 1);
        broken(s, "?", 0, 1);
        broken(s, "  \u00e1law", 2, 1);
        s.says(0, "2 a NUMBER that is not as told;");
        broken(s, "law 4 0 2;", 4, 2);
        broken(s, LAW + "thing fish 8;", 21, 2);
        broken(s, LAW + "day 1;", 14, 2);
        s.says(0, "3 a thing, a day more than there is room for (its word).");
        broken(s, FOUR + " thing", FOUR.length() + 1, 3);
        broken(s, FOUR + "thing pig 9;", FOUR.length(), 3);
        broken(s, FOUR + "\nthing salt 1;", FOUR.length() + 1, 3);
        broken(s, TWELVE + "day", TWELVE.length(), 3);
        broken(s, TWELVE + " \nday 1;", TWELVE.length() + 2, 3);
    }

    private static void port(Sentences s) {
        s.says(7, "The tape, empty then, is read: how many DAYS there are.");
        YesterdayScale x = new YesterdayScale();
        s.due("none", read(x, LAW), 0);
        s.due("empty", x.count(6), 0);
        s.due("twelve", read(x, TWELVE), 12);
        s.due("empty", x.count(6), 0);
        s.due("a fault", read(x, LAW + "?"), -1000110);
        s.due("empty then, too", x.count(6), 0);
        s.due("nothing of it is left", read(x, LAW), 0);
        read(x, "law 3 1 111;thing saltsaltsalt 1;");
        s.due("nor of what stood further on: a NUMBER", read(x, "law 3 1 9"), -1000109);
        read(x, "law 3 1 111;thing saltsaltsalt 1;");
        s.due("nor a NAME", read(x, "law 3 1 11;thing salt"), -1000121);
        s.due("a NUMBER up to the last byte", read(x, " ".repeat(391) + "law 0 0 2"), -1000500);
        s.due("a NAME up to the last byte", read(x, " ".repeat(397) + "law"), -1000500);
        s.due("a SIGN that is the last byte", read(x, " ".repeat(390) + LAW), 0);
        s.says(7, "-1000100 less the place of a FAULT: all stays.");
        read(x, "law 3 1 50;thing stone 5;thing wool 6;day 3;day 1;");
        x.ask(0, 0);
        x.row(0, 0, 3);
        x.image(1);
        s.due("in the law", read(x, "law 0 0 201;"), -1000108);
        stays(s, x);
        s.due("behind the law", read(x, LAW + "?"), -1000110);
        stays(s, x);
        s.due("behind a thing", read(x, LAW + "thing salt 1;thing pig;"), -1000129);
        stays(s, x);
        s.due("behind a day", read(x, LAW + "thing salt 1;day 1;day 2;"), -1000133);
        stays(s, x);
        s.due("the empty tape", x.port(), -1000100);
        stays(s, x);
        s.due("a row", x.drop(0), 3);
        s.due("the image", x.restore(1), 1);
        stays(s, x);
    }

    private static void stays(Sentences s, YesterdayScale x) {
        s.due("KEEPS", x.count(3), 3);
        s.due("HALF", x.count(4), 1);
        s.due("TOP", x.count(5), 50);
        s.due("THINGS", x.count(1), 2);
        s.due("DAYS", x.count(2), 2);
        s.due("stone", x.kind(0), 4);
        s.due("wool", x.heavy(1, 4), 7);
        s.due("SHOWS", x.shown(0, 2), 11);
        s.due("FRESH", x.shown(1, 3), 1);
        s.due("the trace", x.trace(0), 13);
    }

    private static void fault(Sentences s) {
        YesterdayScale x = new YesterdayScale();
        s.says(8, "0 before one.");
        s.due("new", x.fault(), 0);
        read(x, LAW);
        s.due("none so far", x.fault(), 0);
        s.says(8, "The number of the latest FAULT;");
        read(x, FOUR + "thing salt 1;");
        s.due("3", x.fault(), 3);
        read(x, "law 0 0 0;");
        s.due("2", x.fault(), 2);
        read(x, "law");
        s.due("1", x.fault(), 1);
        read(x, "law 4 0 2;");
        read(x, LAW);
        s.due("2, though one was read", x.fault(), 2);
    }
}
