/** The edges that the document names for the text: HEIRS, THE TAPE, TOKENS, FAULTS, promises 1 to 8. */
public final class EdgeTextTest {
    private static final Checks CHECKS = new Checks();
    private static final String SIX = "tall 1 1 1;tall 1 1 1;tall 1 1 1;tall 1 1 1;tall 1 1 1;tall 1 1 1;";
    private static final String[] KINDS = {"plain", "tall", "stooped", "stool"};
    private static final int BAD = LeapKings.BAD;

    private static void due(String call, long got, long want) {
        CHECKS.due(call, got, want);
    }

    private static LeapKings taken(String text, int lines) {
        LeapKings x = new LeapKings();
        due("text() of '" + text + "'", Checks.tell(x, text), lines);
        due("fault() of '" + text + "'", x.fault(), 0);
        due("bytes behind '" + text + "'", x.count(2), 0);
        return x;
    }

    private static void faulty(String text, int fault, int place) {
        LeapKings x = new LeapKings();
        due("text() of '" + text + "'", Checks.tell(x, text), -10 - place);
        due("fault() of '" + text + "'", x.fault(), fault);
        due("bytes behind '" + text + "'", x.count(2), 0);
        due("HEIRS behind '" + text + "'", x.rule(0), 0);
    }

    private static String filled(String text) {
        return text + " ".repeat(160 - text.length());
    }

    private static void newObject() {
        CHECKS.of("1: No HEIRS; SHEETS of nothing .. (0 at first)");
        LeapKings x = new LeapKings();
        for (int what = 0; what <= 5; what++) {
            due("rule(" + what + ")", x.rule(what), 0);
        }
        CHECKS.dueAll("count", new long[] {x.count(0), x.count(1), x.count(2), x.count(3), x.count(4), x.count(5)}, 0, 0, 0, LeapKings.NONE, 0, 0);
        due("fault()", x.fault(), 0);
        due("torn()", x.torn(), 0);
        for (int k = 0; k < 4; k++) {
            due("lay(" + k + ", 0, 0)", x.lay(k, 0, 0), -11);
        }
        due("back(0)", x.back(0), LeapKings.STATE);
        due("back(1)", x.back(1), LeapKings.STATE);
        due("text() of nothing", x.text(), 0);
    }

    private static void tapeIsFilled() {
        CHECKS.of("2: A byte (0 to 127) comes behind THE TAPE: how many it has. BAD; FULL: more than 160");
        LeapKings x = new LeapKings();
        for (int i = 1; i <= 160; i++) {
            due("feed, byte " + i, x.feed(i == 1 ? 0 : i == 2 ? 127 : 32), i);
        }
        due("feed, byte 161", x.feed(32), LeapKings.FULL);
        due("feed(-1), BAD ahead of FULL", x.feed(-1), BAD);
        due("feed(128), BAD ahead of FULL", x.feed(128), BAD);
        due("bytes", x.count(2), 160);
        due("end(159)", x.end(159), 160);
        due("feed, byte 160 again", x.feed(32), 160);
        due("feed, byte 161 again", x.feed(32), LeapKings.FULL);
        due("text(), byte 0 is no TOKEN", x.text(), -10);
        due("feed on the tape that is empty then", x.feed(32), 1);
    }

    private static void tapeIsCut() {
        CHECKS.of("3: THE TAPE keeps its first n bytes: how many it had. BAD");
        LeapKings x = new LeapKings();
        due("end(0) of nothing", x.end(0), 0);
        due("end(1) of nothing", x.end(1), BAD);
        due("end(-1) of nothing", x.end(-1), BAD);
        Checks.feedAll(x, "works 12;");
        due("end(10)", x.end(10), BAD);
        due("end(9), all", x.end(9), 9);
        due("end(-1)", x.end(-1), BAD);
        due("bytes", x.count(2), 9);
        due("end(7)", x.end(7), 9);
        due("end(8), what was cut does not come again", x.end(8), BAD);
        due("feed(;)", x.feed(';'), 8);
        due("text()", x.text(), 1);
        due("WORKS", x.rule(2), 1);
        Checks.feedAll(x, "works 12;");
        x.end(7);
        due("text(), no byte behind the last is read: a figure", x.text(), -17);
        Checks.feedAll(x, "plain 1 1 1;works");
        x.end(16);
        due("text(), no byte behind the last is read: a letter", x.text(), -22);
        Checks.feedAll(x, "works 1 ;");
        x.end(8);
        due("text(), no byte behind the last is read: ;", x.text(), -18);
        Checks.feedAll(x, "works 34;");
        due("end(0)", x.end(0), 9);
        due("text() of nothing", x.text(), 0);
        due("WORKS of nothing", x.rule(2), 0);
    }

    private static void placesOfTheTape() {
        CHECKS.of("THE TAPE has 160 bytes, places from 0 .. 4: -10 less the place of its FAULT");
        faulty("x", 2, 0);
        faulty(" x", 2, 1);
        faulty(" ".repeat(159) + "x", 2, 159);
        faulty(" ".repeat(159) + "$", 1, 159);
        faulty(" ".repeat(155) + "plain", 2, 160);
        faulty(" ".repeat(153) + "works 1", 2, 160);
        faulty(filled("line 0;"), 6, 160);
        taken(" ".repeat(160), 0);
        taken(" ".repeat(152) + "works 9;", 1);
        taken(filled("works 9;"), 1);
    }

    private static int faultAlone(int c) {
        if (c == 32) return 0;
        boolean token = c >= 'a' && c <= 'z' || c >= '0' && c <= '9' || c == ';';
        return token ? 2 : 1;
    }

    private static void everyByteAlone() {
        CHECKS.of("TOKENS .. blanks (32) between: NAMES (a .. z), NUMBERS (1 or 2 figures), one ;");
        for (int c = 0; c <= 127; c++) {
            LeapKings x = new LeapKings();
            x.feed(c);
            due("text() of byte " + c, x.text(), c == 32 ? 0 : -10);
            due("fault() of byte " + c, x.fault(), faultAlone(c));
        }
        int[] beside = {31, 33, '/', ':', '<', '`', '{', '@', 'A', 'Z', '[', 0, 127, 9, 10, 13};
        for (int c : beside) {
            due("no TOKEN is byte " + c, faultAlone(c), 1);
        }
    }

    private static void everyByteBehindAName() {
        CHECKS.of("TOKENS, each as long as may be");
        for (int c = 0; c <= 127; c++) {
            boolean figure = c >= '0' && c <= '9';
            boolean letter = c >= 'a' && c <= 'z';
            LeapKings x = new LeapKings();
            int want = c == 32 || figure ? 1 : letter ? -10 : -15;
            due("text() of works, byte " + c + ", 7;", Checks.tell(x, "works" + (char) c + "7;"), want);
            due("fault() then", x.fault(), want == 1 ? 0 : letter || c == ';' ? 2 : 1);
            due("WORKS then", x.rule(2), c == 32 ? 7 : figure ? (c - '0') * 10 + 7 : 0);
        }
    }

    private static void everyByteBehindANumber() {
        CHECKS.of("TOKENS, each as long as may be");
        for (int c = 0; c <= 127; c++) {
            boolean figure = c >= '0' && c <= '9';
            boolean letter = c >= 'a' && c <= 'z';
            LeapKings x = new LeapKings();
            int want = c == 32 || figure ? 1 : c == ';' ? -18 : -17;
            due("text() of works 7, byte " + c + ", ;", Checks.tell(x, "works 7" + (char) c + ";"), want);
            due("fault() then", x.fault(), want == 1 ? 0 : letter || c == ';' ? 2 : 1);
            due("WORKS then", x.rule(2), c == 32 ? 7 : figure ? 70 + (c - '0') : 0);
        }
    }

    private static void asLongAsMayBe() {
        CHECKS.of("TOKENS, each as long as may be, blanks (32) between");
        taken("plain1 1 1;tall2 2 2;line1;works03;lumbago4;", 5);
        taken("  plain  1  1  1  ;  works  3  ;  ", 2);
        faulty("worksworks 1;", 2, 0);
        faulty("wor ks 1;", 2, 0);
        faulty("works 1 2;", 2, 8);
        faulty("plain 111;", 1, 6);
        faulty("plain 11 1;", 2, 10);
        CHECKS.of("NUMBERS (1 or 2 figures) .. 1 .. a NUMBER that is too long (its first byte)");
        due("WORKS of 0", taken("works 0;", 1).rule(2), 0);
        due("WORKS of 00", taken("works 00;", 1).rule(2), 0);
        due("WORKS of 09", taken("works 09;", 1).rule(2), 9);
        due("WORKS of 99", taken("works 99;", 1).rule(2), 99);
        faulty("works 000;", 1, 6);
        faulty("works 009;", 1, 6);
        faulty("works 100;", 1, 6);
        faulty("works 4294967297;", 1, 6);
        faulty("lumbago 100;", 1, 8);
        faulty("line 000;", 1, 5);
        faulty("line 0 100;", 1, 7);
        faulty(" 100", 1, 1);
        faulty("x 100", 2, 0);
    }

    private static void emptyAndFullTexts() {
        CHECKS.of("text: { line } .. 4: how many lines");
        taken("", 0);
        taken(" ", 0);
        taken("works 1;", 1);
        LeapKings x = taken("line 5;lumbago 9;works 99;" + SIX, 9);
        due("HEIRS", x.rule(0), 6);
        CHECKS.of("line { N } ;");
        taken("line;", 1);
        taken("plain 1 1 1;line;", 2);
        CHECKS.dueAll("THE LINE of line;", Checks.lineOf(taken("line;" + SIX, 7)), 0, 1, 2, 3, 4, 5);
    }

    private static void whoAreFirst() {
        CHECKS.of("(by order at first) .. line: who are first in THE LINE (HEIRS 0 to 5, unlike); all others behind them, by order");
        CHECKS.dueAll("none told", Checks.lineOf(taken(SIX, 6)), 0, 1, 2, 3, 4, 5);
        CHECKS.dueAll("the last first", Checks.lineOf(taken(SIX + "line 5;", 7)), 5, 0, 1, 2, 3, 4);
        CHECKS.dueAll("one from within", Checks.lineOf(taken("line 3 1;" + SIX, 7)), 3, 1, 0, 2, 4, 5);
        CHECKS.dueAll("all", Checks.lineOf(taken("line 5 4 3 2 1 0;" + SIX, 7)), 5, 4, 3, 2, 1, 0);
        CHECKS.dueAll("all but one", Checks.lineOf(taken("line 5 4 3 2 1;" + SIX, 7)), 5, 4, 3, 2, 1, 0);
        CHECKS.dueAll("one HEIR", Checks.lineOf(taken("line 0;tall 1 1 1;", 2)), 0);
        CHECKS.dueAll("two HEIRS", Checks.lineOf(taken("plain 1 1 1;line 1;plain 1 1 1;", 3)), 1, 0);
        faulty("line 6;", 3, 5);
        faulty("line 06;", 3, 5);
        faulty("line 99;", 3, 5);
    }

    private static void boundsOfAnHeir() {
        CHECKS.of("SPRING (0 to 20), a BACK (1 to 20), a TERM (1 to 30 YEARS) .. 3 a NUMBER out of its bounds");
        for (int kind = 0; kind < 4; kind++) {
            String name = KINDS[kind];
            int at = name.length() + 1;
            LeapKings least = taken(name + " 0 1 1;", 1);
            CHECKS.dueAll(name + ", least", new long[] {least.heir(0, 0), least.heir(0, 1), least.heir(0, 2), least.heir(0, 3)}, kind, 0, 1, 1);
            LeapKings most = taken(name + " 20 20 30;", 1);
            CHECKS.dueAll(name + ", greatest", new long[] {most.heir(0, 0), most.heir(0, 1), most.heir(0, 2), most.heir(0, 3)}, kind, 20, 20, 30);
            faulty(name + " 21 1 1;", 3, at);
            faulty(name + " 99 1 1;", 3, at);
            faulty(name + " 0 0 1;", 3, at + 2);
            faulty(name + " 0 21 1;", 3, at + 2);
            faulty(name + " 20 1 0;", 3, at + 5);
            faulty(name + " 20 20 31;", 3, at + 6);
        }
    }

    private static void boundsOfTheRest() {
        CHECKS.of("LUMBAGO (0 to 9; 0 at first)");
        due("LUMBAGO of 0", taken("lumbago 0;", 1).rule(3), 0);
        due("LUMBAGO of 9", taken("lumbago 9;", 1).rule(3), 9);
        due("LUMBAGO of 09", taken("lumbago 09;", 1).rule(3), 9);
        due("LUMBAGO of nothing", taken("works 9;", 1).rule(3), 0);
        faulty("lumbago 10;", 3, 8);
        faulty("lumbago 99;", 3, 8);
        CHECKS.of("WORKS (0 to 999; told 0 to 99; 0 at first)");
        due("WORKS of nothing", taken("lumbago 9;", 1).rule(2), 0);
        due("WORKS of 99", taken("works 99;", 1).rule(2), 99);
        faulty("works 999;", 1, 6);
    }

    private static void tokensThatCanNotStand() {
        CHECKS.of("2 a TOKEN that can not stand there (a NAME that begins no line; or the end: the length)");
        for (String name : new String[] {"a", "z", "plai", "plainn", "tal", "talls", "stoop", "stoopedd", "stoo", "stools", "lin", "lines", "lumbag", "lumbagos", "work", "workss",
            "blain", "ball", "atooped", "atool", "nine", "dumbago", "forks", "plaim", "talk", "stoopes", "stoon", "lint", "lumbagi", "workt"}) {
            faulty(name + " 1 1 1;", 2, 0);
            faulty("works 1;" + name, 2, 8);
        }
        for (String name : KINDS) {
            String line = name + " 1 1 1;";
            int at = name.length();
            for (int cut = at; cut < line.length(); cut++) {
                faulty(line.substring(0, cut), 2, cut);
            }
            for (int place = 1; place <= 5; place += 2) {
                faulty(line.substring(0, at + place) + ";", 2, at + place);
                faulty(line.substring(0, at + place) + "x", 2, at + place);
            }
            faulty(name + " 1 1 1 1;", 2, at + 7);
            faulty(name + " 1 1 1 tall", 2, at + 7);
        }
        faulty("line", 2, 4);
        faulty("line 1", 2, 6);
        faulty("line 1 ", 2, 7);
        faulty("line 1 works 1;", 2, 7);
        faulty("lumbago", 2, 7);
        faulty("lumbago;", 2, 7);
        faulty("lumbago x", 2, 8);
        faulty("lumbago 1", 2, 9);
        faulty("lumbago 1 1;", 2, 10);
        faulty("lumbago 1 x;", 2, 10);
        faulty("works", 2, 5);
        faulty("works;", 2, 5);
        faulty("works x", 2, 6);
        faulty("works 1", 2, 7);
        faulty("works 1 1;", 2, 8);
        faulty("works 1 x;", 2, 8);
        faulty(";", 2, 0);
        faulty("1", 2, 0);
        faulty("works 1; ;", 2, 9);
        faulty("works 1; 1;", 2, 9);
    }

    private static void theFirstMet() {
        CHECKS.of("FAULTS, the first met as it is read (a TOKEN is read when the one before has been taken)");
        faulty("x $", 2, 0);
        faulty("x$", 2, 0);
        faulty("plain $ 21", 1, 6);
        faulty("plain 21 $", 3, 6);
        faulty("plain 21$", 3, 6);
        faulty("plain 1 0 100;", 3, 8);
        faulty("plain 1 100 0;", 1, 8);
        faulty("plain 1 1 0", 3, 10);
        faulty("lumbago 10$", 3, 8);
        faulty("works 1;works$", 4, 8);
        faulty("works 1;works;", 4, 8);
        faulty("lumbago 1;lumbago 10;", 4, 10);
        faulty("line;line 6;", 4, 5);
        faulty("line 0 0$", 4, 7);
        faulty("line 0 6$", 3, 7);
        faulty("line 0$ 0", 1, 6);
        faulty(SIX + "stool$", 5, 66);
        faulty(SIX + "stool 21 0 0;", 5, 66);
        faulty(SIX + "$tool", 1, 66);
        faulty("line 5;x", 2, 7);
        faulty("line 5;works 1;works 1;", 4, 15);
        faulty("line 5;plain 1 1 1", 2, 18);
    }

    private static void forTheSecondTime() {
        CHECKS.of("4 line, lumbago, works for the second time (its NAME)");
        faulty("line; line;", 4, 6);
        faulty("line;works 0;line;", 4, 13);
        faulty("lumbago 0;lumbago 0;", 4, 10);
        faulty("works 0;works 0;", 4, 8);
        faulty("works 0;lumbago 0;line;works 0;", 4, 23);
        taken("works 0;lumbago 0;line;", 3);
        CHECKS.of("4 .. an HEIR who is in line already (it)");
        faulty("line 0 0;", 4, 7);
        faulty("line 0 00;", 4, 7);
        faulty("line 5 4 5;", 4, 9);
        faulty("line 0 1 2 3 4 5 0;", 4, 17);
        faulty("line 0 1 2 3 4 5 05;", 4, 17);
        faulty("line 0 1 2 3 4 5 6;", 3, 17);
        faulty("line 0 1 2 3 4 5 x;", 2, 17);
        faulty("line 0 1 2 3 4 5 $;", 1, 17);
        faulty("line 0 1 2 3 4 5", 2, 16);
    }

    private static void theSeventh() {
        CHECKS.of("5 the 7th HEIR (its NAME)");
        for (String name : KINDS) {
            LeapKings x = taken(SIX.substring(11) + name + " 1 1 1;", 6);
            due("HEIRS with the 6th " + name, x.rule(0), 6);
            faulty(SIX + name + " 1 1 1;", 5, 66);
            faulty(SIX + "  " + name, 5, 68);
            faulty(SIX + "works 1;" + name + " 1 1 1;", 5, 74);
        }
    }

    private static void anHeirThatThereIsNot() {
        CHECKS.of("Behind all (the length): 6 an HEIR that there is not");
        String five = SIX.substring(11);
        faulty("line 0;", 6, 7);
        faulty("line 0;   ", 6, 10);
        faulty("line 1;plain 1 1 1;", 6, 19);
        faulty("line 0 1;plain 1 1 1;", 6, 21);
        faulty("line 5;" + five, 6, 62);
        faulty(five + "line 4 5;", 6, 64);
        taken("line 4;" + five, 6);
        taken("line 5;" + SIX, 7);
        taken("line 0;plain 1 1 1;", 2);
    }

    private static void whatWasToldStays() {
        CHECKS.of("4: that which was told stays");
        String[] texts = {"$", "tall 1 1 1;x", "tall 21 1 1;", "works 1;works 1;", SIX + "tall", "line 5;tall 1 1 1;lumbago 5;works 5;"};
        int[] answers = {-10, -21, -15, -18, -76, -46};
        for (Stage stage : Stage.values()) {
            for (int i = 0; i < texts.length; i++) {
                String text = texts[i];
                Twin.unchangedButTape(CHECKS, stage + " text() of '" + text + "'", stage::make, x -> {
                    x.end(0);
                    return Checks.tell(x, text);
                }, answers[i]);
                LeapKings x = stage.make();
                x.end(0);
                Checks.tell(x, text);
                due("fault() of '" + text + "'", x.fault(), i + 1);
                CHECKS.of("4: THE TAPE (empty then)");
                due("bytes then", x.count(2), 0);
                CHECKS.of("4: that which was told stays");
            }
        }
    }

    private static void aTextTellsAll() {
        CHECKS.of("A text that is taken tells all, in place of what there was; nothing is SEEN; IMAGES are gone");
        for (String text : new String[] {"", "plain 4 5 6;", "tall 4 5 6;stool 1 2 3;line 1;"}) {
            for (Stage stage : Stage.values()) {
                LeapKings x = stage.make();
                x.end(0);
                int torn = x.torn();
                int cells = x.count(3);
                LeapKings fresh = new LeapKings();
                due(stage + " text() of '" + text + "'", Checks.tell(x, text), Checks.tell(fresh, text));
                for (int what = 0; what <= 5; what++) {
                    due(stage + " rule(" + what + ")", x.rule(what), fresh.rule(what));
                    for (int h = 0; h < 6; h++) {
                        due(stage + " heir(" + h + ", " + what + ")", x.heir(h, what), fresh.heir(h, what));
                    }
                }
                CHECKS.dueAll(stage + " THE LINE", Checks.lineOf(x), Checks.lineOf(fresh));
                due(stage + " SEEN", x.count(0), 0);
                due(stage + " IMAGES", x.count(1), 0);
                due(stage + " back(0)", x.back(0), LeapKings.STATE);
                due(stage + " back(1)", x.back(1), LeapKings.STATE);
                due(stage + " torn() is not of it", x.torn(), torn);
                due(stage + " CELLS are not of it", x.count(3), cells);
            }
        }
    }

    private static void faultOfTheLatest() {
        CHECKS.of("5: The FAULT of the latest text(); 0");
        LeapKings x = new LeapKings();
        due("ahead of any", x.fault(), 0);
        String[] texts = {"1000", "x", "lumbago 10;", "line;line;", SIX + "tall", "line 0;"};
        for (int i = 0; i < texts.length; i++) {
            Checks.tell(x, texts[i]);
            due("of '" + texts[i] + "'", x.fault(), i + 1);
            due("asked again", x.fault(), i + 1);
        }
        x.feed(-1);
        x.feed('a');
        x.end(9);
        x.bear(1, 1, 1);
        due("other calls leave it", x.fault(), 6);
        x.end(0);
        due("text() of nothing", x.text(), 0);
        due("of nothing", x.fault(), 0);
    }

    private static void heights() {
        CHECKS.of("HEIGHT by KIND: plain BACK; tall half as much more (the half up); stooped half of that of a tall one (down); stool 1 less than that of a stooped one (0 at least)");
        int[] tall = {2, 3, 5, 6, 8, 9, 11, 12, 14, 15, 17, 18, 20, 21, 23, 24, 26, 27, 29, 30};
        int[] stooped = {1, 1, 2, 3, 4, 4, 5, 6, 7, 7, 8, 9, 10, 10, 11, 12, 13, 13, 14, 15};
        int[] stool = {0, 0, 1, 2, 3, 3, 4, 5, 6, 6, 7, 8, 9, 9, 10, 11, 12, 12, 13, 14};
        for (int back = 1; back <= 20; back++) {
            int[] want = {back, tall[back - 1], stooped[back - 1], stool[back - 1]};
            for (int kind = 0; kind < 4; kind++) {
                LeapKings x = taken(KINDS[kind] + " 1 " + back + " 1;", 1);
                due("heir(0, 4) of " + KINDS[kind] + ", BACK " + back, x.heir(0, 4), want[kind]);
            }
        }
    }

    private static void asked() {
        CHECKS.of("6, 7, 8: each what of rule() and heir(), each PLACE of line()");
        LeapKings x = taken("plain 1 2 3;stool 18 19 20;line 1;lumbago 4;works 5;", 5);
        CHECKS.dueAll("rule", new long[] {x.rule(0), x.rule(1), x.rule(2), x.rule(3), x.rule(4), x.rule(5)}, 2, 0, 5, 4, 0, 0);
        CHECKS.dueAll("heir(0, ..)", new long[] {x.heir(0, 0), x.heir(0, 1), x.heir(0, 2), x.heir(0, 3), x.heir(0, 4), x.heir(0, 5)}, 0, 1, 2, 3, 2, 1);
        CHECKS.dueAll("heir(1, ..)", new long[] {x.heir(1, 0), x.heir(1, 1), x.heir(1, 2), x.heir(1, 3), x.heir(1, 4), x.heir(1, 5)}, 3, 18, 19, 20, 13, 0);
        CHECKS.dueAll("line", new long[] {x.line(-1), x.line(0), x.line(1), x.line(2)}, BAD, 1, 0, BAD);
        // 0 over 1, 1 - 4 < 13: he FALLS for 2 of 3 YEARS, which are built.
        due("reigns(1)", x.reigns(1), 7);
        CHECKS.dueAll("rule behind a REIGN", new long[] {x.rule(0), x.rule(1), x.rule(2), x.rule(3), x.rule(4), x.rule(5)}, 2, 1, 7, 4, 2, 1);
    }

    public static void main(String[] args) {
        newObject();
        tapeIsFilled();
        tapeIsCut();
        placesOfTheTape();
        everyByteAlone();
        everyByteBehindAName();
        everyByteBehindANumber();
        asLongAsMayBe();
        emptyAndFullTexts();
        whoAreFirst();
        boundsOfAnHeir();
        boundsOfTheRest();
        tokensThatCanNotStand();
        theFirstMet();
        forTheSecondTime();
        theSeventh();
        anHeirThatThereIsNot();
        whatWasToldStays();
        aTextTellsAll();
        faultOfTheLatest();
        heights();
        asked();
        CHECKS.finish();
    }
}
