/** Promises 1 to 8: a new object, the tape, the text and its faults, what is told. */
public final class TextTest {
    private static final Checks CHECKS = new Checks();

    private static void due(String call, long got, long want) {
        CHECKS.due(call, got, want);
    }

    private static void newObject() {
        LeapKings x = new LeapKings();
        for (int what = 0; what <= 5; what++) {
            due("new rule(" + what + ")", x.rule(what), 0);
        }
        due("new heir(0, 0)", x.heir(0, 0), LeapKings.BAD);
        due("new line(0)", x.line(0), LeapKings.BAD);
        due("new fault()", x.fault(), 0);
        due("new torn()", x.torn(), 0);
        due("new count(0)", x.count(0), 0);
        due("new count(1)", x.count(1), 0);
        due("new count(2)", x.count(2), 0);
        for (int k = 0; k < 4; k++) {
            due("new lay(" + k + ", 0, 0)", x.lay(k, 0, 0), -11);
        }
        due("new count(3)", x.count(3), LeapKings.NONE);
        due("new back(0)", x.back(0), LeapKings.STATE);
        due("new runs(0, 0)", x.runs(0, 0), LeapKings.STATE);
    }

    private static void tapeGrows() {
        LeapKings x = new LeapKings();
        due("feed(-1)", x.feed(-1), LeapKings.BAD);
        due("feed(128)", x.feed(128), LeapKings.BAD);
        due("feed(0)", x.feed(0), 1);
        due("feed(127)", x.feed(127), 2);
        for (int i = 3; i <= 160; i++) {
            due("feed number " + i, x.feed(' '), i);
        }
        due("feed beyond", x.feed(' '), LeapKings.FULL);
        due("feed bad beyond", x.feed(128), LeapKings.BAD);
        due("bytes", x.count(2), 160);
        due("end(161)", x.end(161), LeapKings.BAD);
        due("end(-1)", x.end(-1), LeapKings.BAD);
        due("end(160)", x.end(160), 160);
        due("end(2)", x.end(2), 160);
        due("end(3)", x.end(3), LeapKings.BAD);
        due("end(0)", x.end(0), 2);
        due("end(0) again", x.end(0), 0);
        due("feed behind end", x.feed('a'), 1);
    }

    private static void endKeepsTheFirst() {
        LeapKings x = new LeapKings();
        Checks.feedAll(x, "works 7;junk");
        x.end(8);
        due("text() of what is kept", x.text(), 1);
        due("WORKS", x.rule(2), 7);
    }

    private static void longestText() {
        LeapKings x = new LeapKings();
        String text = "plain 20 20 30;tall 20 20 30;stooped 20 20 30;stool 20 20 30;line 5 4 3 2 1 0;lumbago 9;works 99;"
            + "plain 20 20 30;plain 20 20 30;";
        while (text.length() < 160) {
            text += " ";
        }
        due("text() of 160 bytes", Checks.tell(x, text), 9);
        for (int i = 0; i < 6; i++) {
            due("line(" + i + ")", x.line(i), 5 - i);
            due("heir(" + i + ", 5)", x.heir(i, 5), 5 - i);
        }
        due("WORKS", x.rule(2), 99);
        due("LUMBAGO", x.rule(3), 9);
    }

    private static void faulty(String text, int fault, int place) {
        LeapKings x = Checks.told("plain 3 4 5;works 6;");
        x.see(2, 0);
        x.keep(1);
        due("text() of '" + text + "'", Checks.tell(x, text), -10 - place);
        due("fault() of '" + text + "'", x.fault(), fault);
        due("bytes then", x.count(2), 0);
        due("HEIRS that stay", x.rule(0), 1);
        due("WORKS that stay", x.rule(2), 6);
        due("SEEN that stay", x.count(0), 1);
        due("IMAGES that stay", x.count(1), 1);
        due("text() of nothing", x.text(), 0);
        due("fault() of nothing", x.fault(), 0);
    }

    private static void tokensThatAreNone() {
        faulty("Plain 1 1 1;", 1, 0);
        faulty("plain\t1 1 1;", 1, 5);
        faulty("plain 1 1 1;\n", 1, 12);
        faulty("plain 1 1 1,", 1, 11);
        faulty("plain -1 1 1;", 1, 6);
        faulty("plain 100 1 1;", 1, 6);
        faulty("plain 001 1 1;", 1, 6);
        faulty("plain 1 1 1; 123", 1, 13);
        faulty("works 100;", 1, 6);
        faulty("line 000;", 1, 5);
        faulty("works 99999999999999999999;", 1, 6);
    }

    private static void tokensOutOfPlace() {
        faulty(";", 2, 0);
        faulty("  7 1 1;", 2, 2);
        faulty("king 1 1 1;", 2, 0);
        faulty("a", 2, 0);
        faulty("z", 2, 0);
        faulty("pool 1 1 1;", 2, 0);
        faulty("plainer 1 1 1;", 2, 0);
        faulty("stoo 1 1 1;", 2, 0);
        faulty("plain1 1 1;plain", 2, 16);
        faulty("plain 1 1 1", 2, 11);
        faulty("plain 1 1 1  ", 2, 13);
        faulty("plain 1 1;", 2, 9);
        faulty("plain 1 1 1 1;", 2, 12);
        faulty("plain 1 1 x;", 2, 10);
        faulty("line x;", 2, 5);
        faulty("line 0", 2, 6);
        faulty("lumbago;", 2, 7);
        faulty("lumbago 1 2;", 2, 10);
        faulty("works works 1;", 2, 6);
        faulty("works 1;;", 2, 8);
    }

    private static void numbersOutOfBounds() {
        faulty("tall 21 1 1;", 3, 5);
        faulty("tall 20 0 1;", 3, 8);
        faulty("tall 20 21 1;", 3, 8);
        faulty("stool 0 20 0;", 3, 11);
        faulty("stool 0 20 31;", 3, 11);
        faulty("line 6;", 3, 5);
        faulty("line 0 1 2 3 4 5 6;", 3, 17);
        faulty("lumbago 10;", 3, 8);
    }

    private static void secondTimes() {
        faulty("line;line;", 4, 5);
        faulty("line 0 0;", 4, 7);
        faulty("line 0 1 2 3 4 5 00;", 4, 17);
        faulty("line 0 0 6;", 4, 7);
        faulty("lumbago 9; lumbago 9;", 4, 11);
        faulty("works 1;works", 4, 8);
    }

    private static void heirsThatAreNot() {
        String six = "tall 1 1 1;tall 1 1 1;tall 1 1 1;tall 1 1 1;tall 1 1 1;tall 1 1 1;";
        faulty(six + "stool", 5, 66);
        faulty(six + " plain 1 1 1;", 5, 67);
        faulty(six + "works 1;plain 99", 5, 74);
        faulty("line 0;", 6, 7);
        faulty("line 0 1;plain 1 1 1; ", 6, 22);
        LeapKings x = Checks.told(six + "line 5;");
        due("HEIRS", x.rule(0), 6);
        due("line(0)", x.line(0), 5);
        due("line(1)", x.line(1), 0);
    }

    private static void aTextTellsAll() {
        LeapKings x = Checks.told("plain 9 1 7;plain 9 1 7;lumbago 3;works 50;");
        x.reigns(3);
        x.lumbago(9);
        x.reigns(1);
        x.see(1, 0);
        x.keep(0);
        x.keep(1);
        x.sheet(0, 0, 5);
        due("REIGNS ahead", x.rule(1), 4);
        due("text()", Checks.tell(x, "line 1;plain07 06 05;plain1 2 3 ;"), 3);
        due("HEIRS", x.rule(0), 2);
        due("REIGNS", x.rule(1), 0);
        due("WORKS", x.rule(2), 0);
        due("LUMBAGO", x.rule(3), 0);
        due("YEARS", x.rule(4), 0);
        due("FALLS", x.rule(5), 0);
        due("SEEN", x.count(0), 0);
        due("IMAGES", x.count(1), 0);
        due("back(0)", x.back(0), LeapKings.STATE);
        due("CELLS of SHEET 0", x.count(3), 5);
        due("line(0)", x.line(0), 1);
        due("line(1)", x.line(1), 0);
        due("line(2)", x.line(2), LeapKings.BAD);
        due("SPRING", x.heir(0, 1), 7);
        due("BACK", x.heir(0, 2), 6);
        due("TERM", x.heir(0, 3), 5);
        due("text() of nothing", x.text(), 0);
        due("HEIRS of nothing", x.rule(0), 0);
    }

    private static void textsInTurn() {
        LeapKings x = new LeapKings();
        for (int i = 0; i < 3; i++) {
            due("text() number " + i, Checks.tell(x, "line 0 1;lumbago 0;works 0;tall 0 1 1;tall 20 1 1;"), 5);
            due("text() number " + i + ", faulty", Checks.tell(x, "line 0;lumbago 1;works 2;x"), -35);
            due("text() number " + i + ", too many in line", Checks.tell(x, "line 0 1;"), -19);
        }
        due("HEIRS", x.rule(0), 2);
        due("LUMBAGO", x.rule(3), 0);
    }

    private static void height(int back, int plain, int tall, int stooped, int stool) {
        LeapKings x = Checks.told("plain 1 " + back + " 1;");
        int[] heights = {plain, tall, stooped, stool};
        for (int kind = 0; kind < 4; kind++) {
            x.alter(0, 0, kind);
            due("HEIGHT of KIND " + kind + ", BACK " + back, x.heir(0, 4), heights[kind]);
        }
    }

    private static void heirsAsTold() {
        height(1, 1, 2, 1, 0);
        height(2, 2, 3, 1, 0);
        height(3, 3, 5, 2, 1);
        height(4, 4, 6, 3, 2);
        height(5, 5, 8, 4, 3);
        height(19, 19, 29, 14, 13);
        height(20, 20, 30, 15, 14);
        LeapKings x = Checks.told("plain 1 2 3;tall 4 5 6;stooped 7 8 9;stool 10 11 12;line 3 1;");
        int[][] told = {{0, 1, 2, 3, 2, 2}, {1, 4, 5, 6, 8, 1}, {2, 7, 8, 9, 6, 3}, {3, 10, 11, 12, 7, 0}};
        for (int h = 0; h < 4; h++) {
            for (int what = 0; what <= 5; what++) {
                due("heir(" + h + ", " + what + ")", x.heir(h, what), told[h][what]);
            }
        }
        due("heir(4, 0)", x.heir(4, 0), LeapKings.BAD);
        due("heir(-1, 0)", x.heir(-1, 0), LeapKings.BAD);
        due("heir(0, 6)", x.heir(0, 6), LeapKings.BAD);
        due("heir(0, -1)", x.heir(0, -1), LeapKings.BAD);
        due("line(-1)", x.line(-1), LeapKings.BAD);
        due("line(4)", x.line(4), LeapKings.BAD);
        due("rule(-1)", x.rule(-1), LeapKings.BAD);
        due("rule(6)", x.rule(6), LeapKings.BAD);
    }

    public static void main(String[] args) {
        newObject();
        tapeGrows();
        endKeepsTheFirst();
        longestText();
        tokensThatAreNone();
        tokensOutOfPlace();
        numbersOutOfBounds();
        secondTimes();
        heirsThatAreNot();
        aTextTellsAll();
        textsInTurn();
        heirsAsTold();
        CHECKS.finish();
    }
}
