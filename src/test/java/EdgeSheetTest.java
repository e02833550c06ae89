/** The edges that the document names for images, sheets and what is counted: promises 34 to 40. */
public final class EdgeSheetTest {
    private static final Checks CHECKS = new Checks();
    private static final int BAD = LeapKings.BAD, STATE = LeapKings.STATE, NONE = LeapKings.NONE;
    private static final int NULL = 1, INDEX = 2, CAST = 3;
    private static final String TWO = "plain 5 5 9;plain 5 5 7;works 3;";

    private static void due(String call, long got, long want) {
        CHECKS.due(call, got, want);
    }

    private static void keep() {
        CHECKS.of("34: IMAGE k (0, 1) is HEIRS, THE LINE, .. what was SEEN: whether there was one (1, 0). BAD");
        LeapKings x = Checks.told(TWO);
        due("keep(-1)", x.keep(-1), BAD);
        due("keep(2)", x.keep(2), BAD);
        due("IMAGES", x.count(1), 0);
        due("keep(0)", x.keep(0), 0);
        due("IMAGES", x.count(1), 1);
        due("keep(0) again", x.keep(0), 1);
        due("IMAGES", x.count(1), 1);
        due("keep(1)", x.keep(1), 0);
        due("IMAGES", x.count(1), 2);
        due("keep(1) again", x.keep(1), 1);
        due("IMAGES", x.count(1), 2);
        Checks.tell(x, "x");
        due("keep(0) behind a text that is not taken", x.keep(0), 1);
        x.text();
        due("IMAGES behind a text that is", x.count(1), 0);
        due("keep(0) behind a text that is", x.keep(0), 0);
    }

    private static void keepOfNone() {
        CHECKS.of("34, 35: an IMAGE of no HEIRS");
        LeapKings x = new LeapKings();
        due("keep(1) of a new object", x.keep(1), 0);
        x.bear(1, 2, 3);
        x.bear(1, 2, 3);
        x.works(9);
        x.lumbago(8);
        x.see(1, 1);
        x.reigns(1);
        due("back(1)", x.back(1), 0);
        for (int what = 0; what <= 5; what++) {
            due("rule(" + what + ")", x.rule(what), 0);
        }
        due("line(0)", x.line(0), BAD);
        due("heir(0, 0)", x.heir(0, 0), BAD);
        due("SEEN", x.count(0), 0);
        due("reigns(0)", x.reigns(0), STATE);
        due("IMAGES", x.count(1), 1);
    }

    private static void keepOfAll() {
        CHECKS.of("34, 35: an IMAGE of all that there can be");
        LeapKings x = Stage.FULL.make();
        LeapKings was = Stage.FULL.make();
        due("keep(1)", x.keep(1), 1);
        x.back(0);
        x.works(1);
        x.forget(0);
        due("back(1)", x.back(1), 500);
        for (int i = 0; i <= 5; i++) {
            due("rule(" + i + ")", x.rule(i), was.rule(i));
            due("line(" + i + ")", x.line(i), was.line(i));
            due("springs(" + i + ")", x.springs(i), was.springs(i));
            for (int what = 0; what <= 5; what++) {
                due("heir(" + i + ", " + what + ")", x.heir(i, what), was.heir(i, what));
            }
        }
        due("SEEN", x.count(0), 6);
        due("REIGNS are 999 again", x.reigns(1), LeapKings.FULL);
    }

    private static void keepOfWhatWasSeen() {
        CHECKS.of("34: IMAGE k is .. what was SEEN");
        // 1 leaps over 0: the first REIGN is his by any SPRING.
        LeapKings x = Checks.told(TWO);
        x.see(1, 1);
        x.keep(0);
        x.forget(0);
        x.see(1, 0);
        x.keep(1);
        due("springs(1), by none", x.springs(1), 0);
        x.back(0);
        due("springs(1) by IMAGE 0", x.springs(1), (1 << 21) - 1);
        x.back(1);
        due("springs(1) by IMAGE 1", x.springs(1), 0);
        x.forget(0);
        x.see(20, 1);
        x.back(1);
        due("springs(1) by IMAGE 1, whatever REIGN was SEEN", x.springs(1), 0);
    }

    private static void keepOfWhichReign() {
        CHECKS.of("34: IMAGE k is .. what was SEEN");
        // 1 REIGNS in the first, 0 in the second, 2 in the third.
        LeapKings x = Checks.told("plain 20 1 1;plain 20 1 1;plain 20 1 1;");
        x.see(2, 0);
        x.keep(0);
        due("kinds(2)", x.kinds(2), 15);
        x.forget(0);
        x.see(3, 0);
        due("kinds(2), by none", x.kinds(2), 0);
        x.back(0);
        due("kinds(2) by the REIGN of the IMAGE", x.kinds(2), 15);
    }

    private static void back() {
        CHECKS.of("35: All is as IMAGE k: WORKS. BAD; STATE: there is none");
        LeapKings x = Checks.told(TWO);
        due("back(-1)", x.back(-1), BAD);
        due("back(2)", x.back(2), BAD);
        due("back(0)", x.back(0), STATE);
        due("back(1)", x.back(1), STATE);
        x.keep(0);
        due("back(1), of the other", x.back(1), STATE);
        x.works(999);
        x.keep(1);
        x.works(0);
        due("back(0)", x.back(0), 3);
        due("back(1)", x.back(1), 999);
        due("back(0), it stays", x.back(0), 3);
        CHECKS.of("35: an IMAGE is not what is changed behind it");
        x.alter(0, 1, 9);
        x.change(0, 1);
        x.see(1, 0);
        x.back(0);
        due("SPRING", x.heir(0, 1), 5);
        due("line(0)", x.line(0), 0);
        due("SEEN", x.count(0), 0);
        x.text();
        CHECKS.of("IMAGES are gone");
        due("back(0)", x.back(0), STATE);
        due("back(1)", x.back(1), STATE);
        due("back(2), BAD ahead of STATE", x.back(2), BAD);
    }

    private static void backLeavesTheRest() {
        CHECKS.of("34: IMAGE k is HEIRS, .. what was SEEN (not THE TAPE, SHEETS, FAULTS)");
        LeapKings x = Checks.told(TWO);
        x.keep(0);
        x.sheet(0, 1, 7);
        x.read(0, 0, 0, 1);
        Checks.tell(x, "lumbago 10;");
        Checks.feedAll(x, "works 8;");
        due("back(0)", x.back(0), 3);
        due("torn()", x.torn(), CAST);
        due("fault()", x.fault(), 3);
        due("CELLS", x.count(3), 7);
        due("bytes", x.count(2), 8);
        due("text()", x.text(), 1);
    }

    private static void sheet() {
        CHECKS.of("36: A SHEET is a new row of CELLS 0: 1. BAD: also n above 40; -10 - 4");
        LeapKings x = Checks.told(TWO);
        for (int k = 0; k < 4; k++) {
            for (int lane = 0; lane < 3; lane++) {
                due("sheet of 40", x.sheet(k, lane, 40), 1);
                due("lay on the last CELL", x.lay(k, 39, 1), 1);
                due("lay behind it", x.lay(k, 40, 1), -12);
                due("sheet of 0", x.sheet(k, lane, 0), 1);
                due("lay on none", x.lay(k, 0, 1), -12);
                due("sheet of 1", x.sheet(k, lane, 1), 1);
                due("lay on the one", x.lay(k, 0, 1), 1);
                due("lay behind it", x.lay(k, 1, 1), -12);
                due("sheet of 41", x.sheet(k, lane, 41), BAD);
                due("sheet of -1", x.sheet(k, lane, -1), -14);
                due("the row stays", x.lay(k, 1, 1), -12);
                due("the row stays", x.lay(k, 0, 1), 1);
            }
        }
        due("n as great as can be", x.sheet(0, 0, Integer.MAX_VALUE), BAD);
        due("n as little as can be", x.sheet(0, 0, Integer.MIN_VALUE), -14);
        due("k below, BAD ahead of SIZE", x.sheet(-1, 0, -1), BAD);
        due("k above, BAD ahead of SIZE", x.sheet(4, 0, -1), BAD);
        due("lane below, BAD ahead of SIZE", x.sheet(0, -1, -1), BAD);
        due("lane above, BAD ahead of SIZE", x.sheet(0, 3, -1), BAD);
        due("SIZE of nothing", new LeapKings().sheet(0, 0, -1), -14);
    }

    private static void sheetIsNew() {
        CHECKS.of("36: a new row of CELLS 0");
        LeapKings x = Checks.told(TWO);
        x.sheet(2, 2, 4);
        Checks.layAll(x, 2, 1, 20, 1, 20);
        x.sheet(2, 2, 4);
        due("read", x.read(2, 2, 0, 2), 2);
        due("SPRING of 0, as of CELLS 0", x.heir(0, 1), 0);
        due("SPRING of 1, never read", x.heir(1, 1), 5);
        due("another lane", x.sheet(2, 0, 4), 1);
        due("read of the lane that was", x.read(2, 2, 0, 1), 0);
        due("torn()", x.torn(), CAST);
        due("read of the lane that is", x.read(2, 0, 0, 1), 1);
        due("torn()", x.torn(), 0);
    }

    private static void lay() {
        CHECKS.of("37: CELL i of a SHEET becomes v .. BAD: k; -10 less the FAULT: NULL, INDEX");
        LeapKings x = Checks.told(TWO);
        for (int k = 0; k < 4; k++) {
            due("NULL", x.lay(k, 0, 1), -11);
            due("NULL ahead of INDEX, below", x.lay(k, -1, 1), -11);
            due("NULL ahead of INDEX, above", x.lay(k, 40, 1), -11);
            x.sheet(k, k % 3, 3);
            due("below", x.lay(k, -1, 1), -12);
            due("the first", x.lay(k, 0, 1), 1);
            due("the last", x.lay(k, 2, 1), 1);
            due("above", x.lay(k, 3, 1), -12);
            due("far below", x.lay(k, Integer.MIN_VALUE, 1), -12);
            due("far above", x.lay(k, Integer.MAX_VALUE, 1), -12);
        }
        due("lay(-1, 0, 1)", x.lay(-1, 0, 1), BAD);
        due("lay(4, 0, 1)", x.lay(4, 0, 1), BAD);
        due("lay(4, -1, 1), BAD ahead of INDEX", x.lay(4, -1, 1), BAD);
    }

    /** What is laid is told by whether it is read as the SPRING that is due; -20: as none. */
    private static void laid(int lane, int v, int spring) {
        LeapKings x = Checks.told(TWO);
        x.sheet(3, lane, 2);
        due("lay " + v + " in lane " + lane, x.lay(3, 1, v), 1);
        due("read " + v + " of lane " + lane, x.read(3, lane, 0, 1), spring < 0 ? -20 : 1);
        due("SPRING by " + v + " of lane " + lane, x.heir(0, 1), spring < 0 ? 5 : spring);
    }

    private static void lowestBits() {
        CHECKS.of("37: CELL i of a SHEET becomes v (its lowest bits)");
        int[] each = {0, 1, 19, 20};
        for (int v : each) {
            laid(0, v, v);
            laid(0, v + 256, v);
            laid(0, v - 256, v);
            laid(0, v + 65536, v);
            laid(0, Integer.MIN_VALUE + v, v);
            laid(0, v + 128, -1);
            laid(0, v - 128, -1);
            laid(1, v, v);
            laid(1, v + 65536, v);
            laid(1, v - 65536, v);
            laid(1, Integer.MIN_VALUE + v, v);
            laid(1, v + 256, -1);
            laid(1, v + 32768, -1);
            laid(1, v - 32768, -1);
            laid(2, v, v);
            laid(2, v + 256, -1);
            laid(2, v + 65536, -1);
            laid(2, Integer.MIN_VALUE + v, -1);
        }
        for (int lane = 0; lane < 3; lane++) {
            laid(lane, 21, -1);
            laid(lane, -1, -1);
            laid(lane, Integer.MAX_VALUE, -1);
        }
    }

    private static void readIs(LeapKings x, int k, int lane, int f, int n, int came, int torn) {
        String call = "read(" + k + ", " + lane + ", " + f + ", " + n + ")";
        int reigns = x.rule(1);
        due(call, x.read(k, lane, f, n), came);
        due("torn() behind " + call, x.torn(), torn);
        due("REIGNS by " + call, x.rule(1) - reigns, came);
    }

    private static void readAll() {
        CHECKS.of("38: n (0 to 20) times an HEIR, SPRING are read of a SHEET .. two CELLS each from CELL f on .. how many came");
        for (int lane = 0; lane < 3; lane++) {
            LeapKings x = Checks.told(TWO);
            x.sheet(1, lane, 40);
            for (int i = 0; i < 20; i++) {
                x.lay(1, 2 * i, i % 2);
                x.lay(1, 2 * i + 1, i);
            }
            readIs(x, 1, lane, 0, 0, 0, 0);
            readIs(x, 1, lane, 0, 1, 1, 0);
            readIs(x, 1, lane, 0, 20, 20, 0);
            due("SPRING of 0, the 19th", x.heir(0, 1), 18);
            due("SPRING of 1, the 20th, CLEAN", x.heir(1, 1), 19);
            readIs(x, 1, lane, 2, 20, 19, INDEX);
            readIs(x, 1, lane, 2, 19, 19, 0);
            readIs(x, 1, lane, 38, 1, 1, 0);
            readIs(x, 1, lane, 38, 2, 1, INDEX);
            readIs(x, 1, lane, 39, 1, 0, INDEX);
            readIs(x, 1, lane, 40, 1, 0, INDEX);
            readIs(x, 1, lane, -1, 1, 0, INDEX);
            readIs(x, 1, lane, -2, 2, 0, INDEX);
            readIs(x, 1, lane, Integer.MAX_VALUE, 20, 0, INDEX);
            readIs(x, 1, lane, Integer.MIN_VALUE, 20, 0, INDEX);
            readIs(x, 1, lane, 40, 0, 0, 0);
        }
    }

    private static void aReignBehindEach() {
        CHECKS.of("38: that is his SPRING then, as by alter(), and a REIGN goes behind each");
        LeapKings x = Checks.told(TWO);
        x.sheet(0, 0, 6);
        Checks.layAll(x, 0, 1, 4, 1, 5, 0, 20);
        readIs(x, 0, 0, 0, 3, 3, 0);
        // 1 over 0: FALLEN by 4, 4 YEARS up; CLEAN by 5, 7 down; CLEAN by 5, 7 up.
        due("WORKS", x.rule(2), 7);
        due("YEARS", x.rule(4), 18);
        due("FALLS", x.rule(5), 1);
        due("SPRING of 0", x.heir(0, 1), 20);
        due("SPRING of 1", x.heir(1, 1), 5);
    }

    private static void whatTheMachineRefuses() {
        CHECKS.of("A FAULT is what the machine finds: 1 NULL (nothing), 2 INDEX, 3 CAST (another lane)");
        LeapKings x = Checks.told(TWO);
        for (int lane = 0; lane < 3; lane++) {
            readIs(x, 3, lane, 0, 1, 0, NULL);
            readIs(x, 3, lane, -1, 20, 0, NULL);
            readIs(x, 3, lane, 0, 0, 0, 0);
            x.sheet(0, lane, 2);
            for (int as = 0; as < 3; as++) {
                readIs(x, 0, as, 0, 1, as == lane ? 1 : 0, as == lane ? 0 : CAST);
                readIs(x, 0, as, 2, 1, 0, as == lane ? INDEX : CAST);
                readIs(x, 0, as, 2, 0, 0, 0);
            }
            x.sheet(0, lane, 0);
            readIs(x, 0, lane, 0, 1, 0, INDEX);
            readIs(x, 0, lane, 0, 0, 0, 0);
        }
        CHECKS.of("38: What the machine refuses: those that were whole ahead came");
        x.sheet(1, 0, 5);
        Checks.layAll(x, 1, 0, 7, 1, 8, 9);
        readIs(x, 1, 0, 0, 3, 2, INDEX);
        due("SPRING of 0", x.heir(0, 1), 7);
        due("SPRING of 1", x.heir(1, 1), 8);
        // CELL 4 is no HEIR, but this one is not whole.
        readIs(x, 1, 0, 4, 1, 0, INDEX);
        readIs(x, 1, 0, 4, 20, 0, INDEX);
    }

    private static void theFirstRefused() {
        CHECKS.of("38: -20 less i: the i-th, whole, is refused by alter() .. then none came; the first met");
        for (int i = 0; i < 20; i++) {
            int at = i;
            int[] bad = {2, -1, 21, -1};
            for (int way = 0; way < 4; way++) {
                int v = bad[way];
                int cell = 2 * at + (way < 2 ? 0 : 1);
                Twin.unchanged(CHECKS, "read with " + v + " in CELL " + cell, () -> {
                    LeapKings x = Checks.told(TWO);
                    x.sheet(1, 0, 40);
                    x.lay(1, cell, v);
                    x.read(0, 0, 0, 1);
                    return x;
                }, x -> x.read(1, 0, 0, 20), -20 - at);
            }
        }
        LeapKings x = Checks.told(TWO);
        x.sheet(0, 0, 5);
        Checks.layAll(x, 0, 0, 20, 0, 21, 0);
        due("it is met ahead of INDEX", x.read(0, 0, 0, 3), -21);
        due("the later of two", x.read(0, 0, 2, 1), -20);
        due("INDEX is met first", x.read(0, 0, 4, 1), 0);
        x.lay(0, 2, 2);
        x.lay(0, 1, 21);
        due("of two the first", x.read(0, 0, 0, 2), -20);
        due("SPRING", x.heir(0, 1), 5);
        due("REIGNS", x.rule(1), 0);
    }

    private static void lastHeirAndSpring() {
        CHECKS.of("38: as by alter(): there is no such HEIR, SPRING (0 to 20)");
        LeapKings x = Checks.told("plain 9 20 1;".repeat(6));
        x.sheet(0, 1, 4);
        Checks.layAll(x, 0, 5, 20, 0, 0);
        readIs(x, 0, 1, 0, 2, 2, 0);
        due("SPRING of 5", x.heir(5, 1), 20);
        due("SPRING of 0", x.heir(0, 1), 0);
        x.lay(0, 0, 6);
        due("HEIR 6", x.read(0, 1, 0, 1), -20);
        x.lay(0, 0, -1);
        due("HEIR -1", x.read(0, 1, 0, 1), -20);
        x.lay(0, 2, 5);
        x.lay(0, 3, 21);
        due("SPRING 21", x.read(0, 1, 2, 1), -20);
        x.lay(0, 3, -1);
        due("SPRING -1", x.read(0, 1, 2, 1), -20);
        due("REIGNS", x.rule(1), 2);
    }

    private static LeapKings withReigns(int n) {
        LeapKings x = Checks.told(TWO);
        Checks.reignAll(x, n);
        x.sheet(0, 0, 40);
        x.lay(0, 1, 5);
        return x;
    }

    private static void twoHeirsAndRoom() {
        CHECKS.of("38: or there are not two HEIRS");
        for (String text : new String[] {"", "plain 5 5 5;"}) {
            Twin.unchanged(CHECKS, "read of '" + text + "'", () -> {
                LeapKings x = Checks.told(text);
                x.sheet(0, 0, 2);
                return x;
            }, x -> x.read(0, 0, 0, 1), -20);
            LeapKings x = Checks.told(text);
            readIs(x, 0, 0, 0, 1, 0, NULL);
            x.sheet(0, 0, 1);
            readIs(x, 0, 0, 0, 1, 0, INDEX);
            readIs(x, 0, 1, 0, 1, 0, CAST);
            readIs(x, 0, 0, 0, 0, 0, 0);
        }
        CHECKS.of("38: or REIGNS are 999");
        Twin.unchanged(CHECKS, "read(0, 0, 0, 1) from 999", () -> withReigns(999), x -> x.read(0, 0, 0, 1), -20);
        Twin.unchanged(CHECKS, "read(0, 0, 0, 2) from 998", () -> withReigns(998), x -> x.read(0, 0, 0, 2), -21);
        Twin.unchanged(CHECKS, "read(0, 0, 0, 20) from 980", () -> withReigns(980), x -> x.read(0, 0, 0, 20), -39);
        readIs(withReigns(979), 0, 0, 0, 20, 20, 0);
        LeapKings x = withReigns(998);
        readIs(x, 0, 0, 0, 1, 1, 0);
        due("REIGNS", x.rule(1), 999);
        readIs(x, 0, 0, 40, 1, 0, INDEX);
        readIs(x, 0, 0, 0, 0, 0, 0);
    }

    private static void torn() {
        CHECKS.of("39: The FAULT of the latest read() that came to an end; 0");
        LeapKings x = Checks.told(TWO);
        due("ahead of any", x.torn(), 0);
        x.sheet(0, 0, 2);
        x.lay(0, 1, 21);
        int[][] faults = {{1, 0, 0, NULL}, {0, 0, 2, INDEX}, {0, 1, 0, CAST}};
        for (int[] f : faults) {
            x.read(f[0], f[1], f[2], 1);
            due("of it", x.torn(), f[3]);
            due("BAD", x.read(4, 0, 0, 1), BAD);
            due("BAD", x.read(0, 3, 0, 1), BAD);
            due("BAD", x.read(0, 0, 0, 21), BAD);
            due("-20", x.read(0, 0, 0, 1), -20);
            due("lay()", x.lay(2, 0, 0), -11);
            due("sheet()", x.sheet(2, 0, -1), -14);
            due("those came to no end, or are no read()", x.torn(), f[3]);
            due("asked again", x.torn(), f[3]);
        }
        x.lay(0, 1, 20);
        due("read", x.read(0, 0, 0, 1), 1);
        due("torn() is 0 again", x.torn(), 0);
        x.text();
        due("torn() behind a text", x.torn(), 0);
    }

    private static void count() {
        CHECKS.of("40: How many: 0 SEEN, 1 IMAGES, 2 bytes on THE TAPE, 3 CELLS of SHEET 0 (NONE: nothing), 4 all SPRING, 5 all TERMS. BAD");
        LeapKings x = Checks.told("plain 20 1 30;".repeat(6));
        due("all SPRING at most", x.count(4), 120);
        due("all TERMS at most", x.count(5), 180);
        due("nothing", x.count(3), NONE);
        x.sheet(3, 0, 9);
        due("nothing, but in another", x.count(3), NONE);
        x.sheet(0, 2, 0);
        due("no CELLS", x.count(3), 0);
        x.sheet(0, 2, 40);
        due("40 CELLS", x.count(3), 40);
        x.sheet(0, 2, 41);
        due("40 CELLS still", x.count(3), 40);
        for (int i = 1; i <= 6; i++) {
            x.see(i, 0);
            due("SEEN", x.count(0), i);
        }
        x.keep(1);
        due("IMAGES, 1 alone", x.count(1), 1);
        x.keep(0);
        due("IMAGES, both", x.count(1), 2);
        for (int i = 1; i <= 160; i++) {
            x.feed(' ');
        }
        due("bytes at most", x.count(2), 160);
        due("count(-1)", x.count(-1), BAD);
        due("count(6)", x.count(6), BAD);
        x.text();
        CHECKS.dueAll("behind a text of blanks", new long[] {x.count(0), x.count(1), x.count(2), x.count(3), x.count(4), x.count(5)}, 0, 0, 0, 40, 0, 0);
    }

    public static void main(String[] args) {
        keep();
        keepOfNone();
        keepOfAll();
        keepOfWhatWasSeen();
        keepOfWhichReign();
        back();
        backLeavesTheRest();
        sheet();
        sheetIsNew();
        lay();
        lowestBits();
        readAll();
        aReignBehindEach();
        whatTheMachineRefuses();
        theFirstRefused();
        lastHeirAndSpring();
        twoHeirsAndRoom();
        torn();
        count();
        CHECKS.finish();
    }
}
