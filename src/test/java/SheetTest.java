/** Promises 34 to 40: images, sheets, what is counted. */
public final class SheetTest {
    private static final Checks CHECKS = new Checks();
    private static final String TWO = "plain 5 5 9;plain 5 5 7;works 3;";

    private static void due(String call, long got, long want) {
        CHECKS.due(call, got, want);
    }

    private static void images() {
        LeapKings x = Checks.told("plain 8 6 10;tall 7 5 9;line 1;lumbago 1;works 20;");
        due("keep(-1)", x.keep(-1), LeapKings.BAD);
        due("keep(2)", x.keep(2), LeapKings.BAD);
        due("back(-1)", x.back(-1), LeapKings.BAD);
        due("back(2)", x.back(2), LeapKings.BAD);
        due("back(1)", x.back(1), LeapKings.STATE);
        x.reigns(3);
        x.see(4, 1);
        due("keep(1)", x.keep(1), 0);
        due("back(0)", x.back(0), LeapKings.STATE);
        int[] was = state(x);
        x.alter(0, 0, 2);
        x.alter(1, 2, 9);
        x.bear(1, 2, 3);
        x.change(0, 2);
        x.lumbago(4);
        x.works(600);
        x.reigns(4);
        x.forget(0);
        x.see(9, 0);
        x.see(9, 0);
        due("back(1)", x.back(1), was[2]);
        same(state(x), was);
        due("springs by what was SEEN", x.springs(1), 0);
        x.forget(0);
        x.see(1, 0);
        due("see what comes true", x.springs(1), (1 << 21) - 1);
        x.keep(0);
        Checks.feedAll(x, "junk");
        x.forget(0);
        x.see(20, 1);
        x.back(0);
        due("springs by what was SEEN and kept", x.springs(1), (1 << 21) - 1);
        due("THE TAPE stays", x.end(0), 4);
        x.works(700);
        due("keep(1) again", x.keep(1), 1);
        due("keep(0)", x.keep(0), 1);
        x.works(1);
        due("back(1), the later one", x.back(1), 700);
        x.works(1);
        due("back(1), still there", x.back(1), 700);
    }

    private static int[] state(LeapKings x) {
        int[] all = new int[60];
        int at = 0;
        for (int what = 0; what <= 5; what++) {
            all[at++] = x.rule(what);
        }
        for (int h = 0; h < 6; h++) {
            for (int what = 0; what <= 5; what++) {
                all[at++] = x.heir(h, what);
            }
            all[at++] = x.line(h);
        }
        all[at] = x.count(0);
        return all;
    }

    private static void same(int[] got, int[] want) {
        for (int i = 0; i < want.length; i++) {
            due("state " + i, got[i], want[i]);
        }
    }

    private static void sheets() {
        LeapKings x = new LeapKings();
        due("sheet(-1, ..)", x.sheet(-1, 0, 1), LeapKings.BAD);
        due("sheet(4, ..)", x.sheet(4, 0, 1), LeapKings.BAD);
        due("sheet(.., -1, .)", x.sheet(0, -1, 1), LeapKings.BAD);
        due("sheet(.., 3, .)", x.sheet(0, 3, 1), LeapKings.BAD);
        due("sheet(.., 41)", x.sheet(0, 0, 41), LeapKings.BAD);
        due("sheet(.., -1)", x.sheet(0, 0, -1), -14);
        due("sheet(.., -2147483648)", x.sheet(0, 0, Integer.MIN_VALUE), -14);
        due("sheet(4, 0, -1)", x.sheet(4, 0, -1), LeapKings.BAD);
        due("CELLS of nothing", x.count(3), LeapKings.NONE);
        due("sheet(0, 0, 40)", x.sheet(0, 0, 40), 1);
        due("CELLS", x.count(3), 40);
        due("sheet(.., -1) leaves it", x.sheet(0, 0, -1), -14);
        due("CELLS that stay", x.count(3), 40);
        due("sheet(0, 2, 0)", x.sheet(0, 2, 0), 1);
        due("CELLS of an empty one", x.count(3), 0);
        due("lay on an empty one", x.lay(0, 0, 1), -12);
        due("lay on nothing", x.lay(3, 0, 1), -11);
        due("lay(-1, ..)", x.lay(-1, 0, 1), LeapKings.BAD);
        due("lay(4, ..)", x.lay(4, 0, 1), LeapKings.BAD);
        x.sheet(3, 1, 2);
        due("lay(3, 1, 5)", x.lay(3, 1, 5), 1);
        due("lay(3, 2, 5)", x.lay(3, 2, 5), -12);
        due("lay(3, -1, 5)", x.lay(3, -1, 5), -12);
    }

    private static void read() {
        // 1 over 0 (HEIGHT 5), for 7 YEARS or 4.
        LeapKings x = Checks.told(TWO);
        x.sheet(2, 1, 7);
        int[] cells = {9, 1, 5, 1, 4, 0, 6};
        for (int i = 0; i < cells.length; i++) {
            x.lay(2, i, cells[i]);
        }
        due("read(2, 1, 1, 1)", x.read(2, 1, 1, 1), 1);
        due("WORKS, CLEAN", x.rule(2), 10);
        due("read(2, 1, 1, 2)", x.read(2, 1, 1, 2), 2);
        due("REIGNS", x.rule(1), 3);
        // The second pulls 7 down, the third (SPRING 4) FALLS and builds 4.
        due("WORKS, FALLEN", x.rule(2), 7);
        due("SPRING then", x.heir(1, 1), 3);
        due("torn()", x.torn(), 0);
        due("read(2, 1, 1, 4)", x.read(2, 1, 1, 4), 3);
        due("torn(), INDEX", x.torn(), 2);
        due("those ahead came", x.rule(1), 6);
        due("SPRING of 0 as read", x.heir(0, 1), 6);
        due("read(2, 1, 6, 1), the second CELL is missing", x.read(2, 1, 6, 1), 0);
        due("torn(), INDEX again", x.torn(), 2);
        due("SPRING of 0 stays", x.heir(0, 1), 6);
        due("read of none", x.read(2, 1, 99, 0), 0);
        due("torn() of none", x.torn(), 0);
        due("read(2, 1, -1, 1)", x.read(2, 1, -1, 1), 0);
        due("torn(), INDEX below", x.torn(), 2);
        due("read(2, 0, 1, 1)", x.read(2, 0, 1, 1), 0);
        due("torn(), CAST", x.torn(), 3);
        due("read(0, 0, 1, 1)", x.read(0, 0, 1, 1), 0);
        due("torn(), NULL", x.torn(), 1);
        due("read far out", x.read(2, 1, Integer.MAX_VALUE, 20), 0);
        due("torn(), INDEX far out", x.torn(), 2);
        due("REIGNS", x.rule(1), 6);
    }

    private static void readRefused() {
        LeapKings x = Checks.told(TWO);
        x.sheet(0, 2, 6);
        int[] cells = {1, 20, 0, 20, 2, 5};
        for (int i = 0; i < cells.length; i++) {
            x.lay(0, i, cells[i]);
        }
        x.read(1, 0, 0, 1);
        int[] was = state(x);
        due("no such HEIR, behind two", x.read(0, 2, 0, 3), -22);
        same(state(x), was);
        due("no such HEIR, the first", x.read(0, 2, 4, 1), -20);
        due("it is met ahead of INDEX", x.read(0, 2, 0, 20), -22);
        due("torn() of the latest that came to an end", x.torn(), 1);
        x.lay(0, 4, 1);
        x.lay(0, 5, 21);
        due("no such SPRING", x.read(0, 2, 0, 3), -22);
        x.lay(0, 5, -1);
        due("no SPRING below 0", x.read(0, 2, 4, 1), -20);
        due("read(-1, ..)", x.read(-1, 2, 0, 1), LeapKings.BAD);
        due("read(4, ..)", x.read(4, 2, 0, 1), LeapKings.BAD);
        due("read(.., -1, ..)", x.read(0, -1, 0, 1), LeapKings.BAD);
        due("read(.., 3, ..)", x.read(0, 3, 0, 1), LeapKings.BAD);
        due("read(.., -1)", x.read(0, 2, 0, -1), LeapKings.BAD);
        due("read(.., 21)", x.read(0, 2, 0, 21), LeapKings.BAD);
        due("torn() stays", x.torn(), 1);
        same(state(x), was);
    }

    private static void readNeedsTwoAndRoom() {
        LeapKings one = Checks.told("plain 5 5 9;");
        one.sheet(0, 0, 2);
        due("read with one HEIR", one.read(0, 0, 0, 1), -20);
        due("SPRING stays", one.heir(0, 1), 5);
        due("INDEX is met ahead of it", one.read(0, 0, 1, 1), 0);
        due("torn()", one.torn(), 2);
        due("none with one HEIR", one.read(0, 0, 0, 0), 0);
        LeapKings x = Checks.told(TWO);
        for (int i = 0; i < 33; i++) {
            x.reigns(30);
        }
        x.reigns(8);
        x.sheet(0, 0, 4);
        x.lay(0, 1, 2);
        due("REIGNS", x.rule(1), 998);
        due("read of two", x.read(0, 0, 0, 2), -21);
        due("REIGNS stay", x.rule(1), 998);
        due("SPRING stays", x.heir(0, 1), 5);
        due("read of one", x.read(0, 0, 0, 1), 1);
        due("REIGNS then", x.rule(1), 999);
        due("SPRING then", x.heir(0, 1), 2);
        due("read beyond", x.read(0, 0, 0, 1), -20);
    }

    /** What is laid is seen by whether it is read as the SPRING 7. */
    private static void lowestBits(int lane, int v, boolean seven) {
        LeapKings x = Checks.told(TWO);
        x.sheet(1, lane, 2);
        due("lay " + v, x.lay(1, 1, v), 1);
        due("read " + v + " of lane " + lane, x.read(1, lane, 0, 1), seven ? 1 : -20);
        due("SPRING", x.heir(0, 1), seven ? 7 : 5);
    }

    private static void lanes() {
        lowestBits(0, 7, true);
        lowestBits(0, 256 + 7, true);
        lowestBits(0, -256 + 7, true);
        lowestBits(0, 128 + 7, false);
        lowestBits(1, 256 + 7, false);
        lowestBits(1, 65536 + 7, true);
        lowestBits(1, 32768 + 7, false);
        lowestBits(2, 65536 + 7, false);
        lowestBits(2, 7, true);
        LeapKings x = Checks.told(TWO);
        x.sheet(1, 0, 2);
        x.lay(1, 1, 7);
        x.sheet(1, 0, 4);
        x.read(1, 0, 0, 1);
        due("a new row has CELLS 0", x.heir(0, 1), 0);
    }

    private static void count() {
        LeapKings x = Checks.told("plain 1 2 3;tall 4 5 6;stool 20 8 30;");
        x.see(1, 0);
        x.see(2, 0);
        due("SEEN", x.count(0), 2);
        due("IMAGES", x.count(1), 0);
        x.keep(1);
        due("IMAGES, 1 alone", x.count(1), 1);
        x.keep(0);
        due("IMAGES, both", x.count(1), 2);
        x.feed('a');
        due("bytes", x.count(2), 1);
        x.sheet(1, 0, 9);
        due("CELLS of SHEET 0", x.count(3), LeapKings.NONE);
        x.sheet(0, 0, 8);
        due("CELLS of SHEET 0 then", x.count(3), 8);
        due("all SPRING", x.count(4), 25);
        due("all TERMS", x.count(5), 39);
        due("count(-1)", x.count(-1), LeapKings.BAD);
        due("count(6)", x.count(6), LeapKings.BAD);
        due("all SPRING of none", new LeapKings().count(4), 0);
        due("all TERMS of none", new LeapKings().count(5), 0);
    }

    public static void main(String[] args) {
        images();
        sheets();
        read();
        readRefused();
        readNeedsTwoAndRoom();
        lanes();
        count();
        CHECKS.finish();
    }
}
