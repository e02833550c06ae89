/** Promises 14 to 19: reigns, worked out by hand. */
public final class ReignTest {
    private static final Checks CHECKS = new Checks();

    /*
     * By order: HEIGHTS 2, 3 (tall, of BACK 2), 9. LUMBAGO 1.
     * 1: 1 over 0, 3 - 1 >= 2, CLEAN: 5 YEARS built, line 2 0 1.
     * 2: 0 over 2, 9 - 1 < 9, FALLS: half of 9 is 5, pulled down, SPRING 8, line 2 1 0.
     * 3: 1 over 2, 3 - 1 < 9, FALLS: half of 5 is 3, built, SPRING 2, line 2 0 1.
     * 4: 0 over 2, 8 - 1 < 9, FALLS: 5 pulled down, SPRING 7, line 2 1 0.
     */
    private static final String THREE = "plain 9 2 9;tall 3 2 5;plain 0 9 4;lumbago 1;works 10;";

    private static void due(String call, long got, long want) {
        CHECKS.due(call, got, want);
    }

    private static void line(LeapKings x, int a, int b, int c) {
        due("line(0)", x.line(0), a);
        due("line(1)", x.line(1), b);
        due("line(2)", x.line(2), c);
    }

    private static void rule(LeapKings x, int reigns, int works, int years, int falls) {
        due("REIGNS", x.rule(1), reigns);
        due("WORKS", x.rule(2), works);
        due("YEARS", x.rule(4), years);
        due("FALLS", x.rule(5), falls);
    }

    private static void oneByOne() {
        LeapKings x = Checks.told(THREE);
        due("reigns(0)", x.reigns(0), 10);
        rule(x, 0, 10, 0, 0);
        due("reigns(1)", x.reigns(1), 15);
        rule(x, 1, 15, 5, 0);
        line(x, 2, 0, 1);
        due("reigns(1), the second", x.reigns(1), 10);
        rule(x, 2, 10, 10, 1);
        line(x, 2, 1, 0);
        due("SPRING of who fell", x.heir(0, 1), 8);
        due("reigns(2)", x.reigns(2), 8);
        rule(x, 4, 8, 18, 3);
        line(x, 2, 1, 0);
        due("SPRING of 0", x.heir(0, 1), 7);
        due("SPRING of 1", x.heir(1, 1), 2);
        due("SPRING of 2", x.heir(2, 1), 0);
        due("LUMBAGO", x.rule(3), 1);
    }

    private static void bounds() {
        LeapKings two = Checks.told("plain 1 1 30;plain 1 1 30;");
        two.works(990);
        due("WORKS at most", two.reigns(1), 999);
        two.works(29);
        due("WORKS at least", two.reigns(1), 0);
        two.alter(1, 1, 0);
        two.reigns(1);
        due("SPRING at least", two.heir(1, 1), 0);
        due("FALLS", two.rule(5), 1);
        two.alter(1, 1, 1);
        two.lumbago(1);
        two.works(0);
        two.reigns(2);
        due("FALLEN by LUMBAGO, 15 YEARS, the fifth built", two.rule(2), 15);
    }

    private static void refused() {
        LeapKings x = Checks.told(THREE);
        due("reigns(-1)", x.reigns(-1), LeapKings.BAD);
        due("reigns(31)", x.reigns(31), LeapKings.BAD);
        LeapKings one = Checks.told("plain 1 1 1;");
        due("reigns(0) of one", one.reigns(0), LeapKings.STATE);
        due("reigns(31) of one", one.reigns(31), LeapKings.BAD);
        for (int i = 0; i < 33; i++) {
            x.reigns(30);
        }
        due("REIGNS", x.rule(1), 990);
        int works = x.rule(2);
        due("reigns(10)", x.reigns(10), LeapKings.FULL);
        due("reigns(31) near the end", x.reigns(31), LeapKings.BAD);
        due("WORKS stay", x.rule(2), works);
        due("REIGNS stay", x.rule(1), 990);
        x.reigns(9);
        due("REIGNS at most", x.rule(1), 999);
        due("reigns(1)", x.reigns(1), LeapKings.FULL);
        due("reigns(0)", x.reigns(0), x.rule(2));
        due("runs beyond", x.runs(2, 2), 2);
    }

    private static void runs() {
        LeapKings x = Checks.told(THREE);
        int[][] behind = {
            {10, 0, 0, LeapKings.NONE, LeapKings.NONE},
            {15, 5, 0, LeapKings.NONE, 1},
            {10, 10, 1, 2, 0},
            {13, 13, 2, 2, 1},
            {8, 18, 3, 2, 0}};
        for (int n = 0; n < behind.length; n++) {
            for (int what = 0; what <= 4; what++) {
                due("runs(" + n + ", " + what + ")", x.runs(n, what), behind[n][what]);
            }
        }
        due("runs(0, 4) behind others", x.runs(0, 4), LeapKings.NONE);
        due("REIGNS are as they were", x.rule(1), 0);
        line(x, 0, 1, 2);
        x.reigns(2);
        due("runs(2, 0) from the third on", x.runs(2, 0), 8);
        due("runs(2, 1)", x.runs(2, 1), 8);
        due("runs(2, 2)", x.runs(2, 2), 2);
        due("runs(2, 3)", x.runs(2, 3), 1);
        due("runs(60, 2)", x.runs(60, 2), 60);
        due("runs(-1, 0)", x.runs(-1, 0), LeapKings.BAD);
        due("runs(61, 0)", x.runs(61, 0), LeapKings.BAD);
        due("runs(1, -1)", x.runs(1, -1), LeapKings.BAD);
        due("runs(1, 5)", x.runs(1, 5), LeapKings.BAD);
        due("runs of none", new LeapKings().runs(1, 0), LeapKings.STATE);
        due("runs bad of none", new LeapKings().runs(61, 0), LeapKings.BAD);
    }

    private static void ahead() {
        LeapKings x = Checks.told(THREE);
        due("ahead(0, 0, 0)", x.ahead(0, 0, 0), 9);
        due("ahead(0, 2, 0)", x.ahead(0, 2, 0), 8);
        due("ahead(0, 4, 0)", x.ahead(0, 4, 0), 7);
        due("ahead(0, 0, 1)", x.ahead(0, 0, 1), 0);
        due("ahead(0, 1, 1)", x.ahead(0, 1, 1), 1);
        due("ahead(0, 2, 1)", x.ahead(0, 2, 1), 2);
        due("ahead(1, 4, 2)", x.ahead(1, 4, 2), 8);
        due("ahead(0, 4, 2)", x.ahead(0, 4, 2), 10);
        due("ahead(2, 60, 2)", x.ahead(2, 60, 2), 0);
        due("ahead(3, ..)", x.ahead(3, 1, 0), LeapKings.BAD);
        due("ahead(-1, ..)", x.ahead(-1, 1, 0), LeapKings.BAD);
        due("ahead(.., 61, ..)", x.ahead(0, 61, 0), LeapKings.BAD);
        due("ahead(.., -1, ..)", x.ahead(0, -1, 0), LeapKings.BAD);
        due("ahead(.., 3)", x.ahead(0, 1, 3), LeapKings.BAD);
        due("ahead(.., -1)", x.ahead(0, 1, -1), LeapKings.BAD);
        LeapKings one = Checks.told("plain 1 1 1;");
        due("ahead of one", one.ahead(0, 0, 0), LeapKings.STATE);
        due("ahead bad of one", one.ahead(1, 0, 0), LeapKings.BAD);
    }

    private static void soonest() {
        LeapKings x = Checks.told(THREE);
        due("soonest(1)", x.soonest(1), 1);
        due("soonest(0)", x.soonest(0), 2);
        due("soonest(2)", x.soonest(2), LeapKings.NONE);
        due("soonest(3)", x.soonest(3), LeapKings.BAD);
        due("soonest(-1)", x.soonest(-1), LeapKings.BAD);
        due("soonest of one", Checks.told("plain 1 1 1;").soonest(0), LeapKings.STATE);
        due("soonest of none", new LeapKings().soonest(0), LeapKings.BAD);
    }

    private static void again() {
        due("again() of three", Checks.told(THREE).again(), LeapKings.NONE);
        // All CLEAN: 0 1 2 3, 2 3 0 1, 0 1 2 3.
        String clean = "plain 9 1 1;plain 9 1 1;plain 9 1 1;plain 9 1 1;";
        due("again() of four", Checks.told(clean).again(), 2);
        // All FALL: 0 1 2, 0 2 1, 0 1 2; SPRING is not what it was, the LINE is.
        due("again() of who fall", Checks.told("plain 9 20 1;plain 9 20 1;plain 9 20 1;").again(), 2);
        // All CLEAN: 0 1 2, 2 0 1, 1 2 0, 0 1 2.
        due("again() of three CLEAN", Checks.told("plain 9 1 1;plain 9 1 1;plain 9 1 1;").again(), 3);
        // Found by a search, and played through by the model: the last that counts.
        LeapKings late = Checks.told("stool 14 10 1;plain 18 11 1;tall 20 6 1;plain 13 5 1;stooped 11 5 1;lumbago 7;");
        due("again() behind 60", late.again(), 60);
        due("again() of one", Checks.told("plain 1 1 1;").again(), LeapKings.STATE);
    }

    private static void ruins() {
        LeapKings x = Checks.told(THREE);
        // 10, 15, 10, 13, 8 and from there 3 up, 5 down: 11, 6, 9, 4, 7, 2, 5, 0.
        due("ruins()", x.ruins(), 12);
        x.works(0);
        due("ruins() at once", x.ruins(), 0);
        x.reigns(1);
        x.works(5);
        due("ruins() by an even one", x.ruins(), 1);
        LeapKings two = Checks.told("plain 1 1 5;plain 1 1 5;works 1;");
        due("ruins() never", two.ruins(), LeapKings.NONE);
        due("ruins() of one", Checks.told("plain 1 1 1;").ruins(), LeapKings.STATE);
    }

    private static void sixtyAtMost() {
        // All FALL: each odd REIGN builds 14, each even one pulls down 15, so 30 are gone behind 60.
        LeapKings x = Checks.told("plain 0 20 1;plain 0 1 28;plain 0 1 30;works 30;");
        due("ruins() behind 60", x.ruins(), 60);
        x.works(31);
        due("ruins() behind 62", x.ruins(), LeapKings.NONE);
    }

    public static void main(String[] args) {
        oneByOne();
        bounds();
        refused();
        runs();
        ahead();
        soonest();
        again();
        ruins();
        sixtyAtMost();
        CHECKS.finish();
    }
}
