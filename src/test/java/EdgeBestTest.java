/** The edges that the document names for what is best: promises 20 to 25. */
public final class EdgeBestTest {
    private static final Checks CHECKS = new Checks();
    private static final int BAD = LeapKings.BAD, STATE = LeapKings.STATE, NONE = LeapKings.NONE;

    private static void due(String call, long got, long want) {
        CHECKS.due(call, got, want);
    }

    /** Six who are CLEAN for good, so that those in PLACES 1, 3, 5 REIGN in turn. */
    private static LeapKings sixClean(int... terms) {
        StringBuilder text = new StringBuilder();
        for (int term : terms) {
            text.append("plain 9 1 ").append(term).append(';');
        }
        return Checks.told(text.toString());
    }

    private static void stateAndBad() {
        CHECKS.of("BAD; STATE: there are not two HEIRS");
        LeapKings one = Checks.told("plain 1 1 1;");
        due("need(0)", one.need(0), STATE);
        due("need(1)", one.need(1), BAD);
        due("order(0, 0), STATE ahead of NONE", one.order(0, 0), STATE);
        due("order(61, 0)", one.order(61, 0), BAD);
        due("stool(0, 0), STATE ahead of NONE", one.stool(0, 0), STATE);
        due("stool(-1, 0)", one.stool(-1, 0), BAD);
        due("term(0, 0, 0)", one.term(0, 0, 0), STATE);
        due("term(1, 0, 0)", one.term(1, 0, 0), BAD);
        due("ache(0, 0)", one.ache(0, 0), STATE);
        due("ache(0, 2)", one.ache(0, 2), BAD);
        due("builder(1, 0)", one.builder(1, 0), STATE);
        due("builder(0, 0)", one.builder(0, 0), BAD);
        LeapKings none = new LeapKings();
        due("order(0, 0) of none", none.order(0, 0), STATE);
        due("builder(60, 1) of none", none.builder(60, 1), STATE);
        due("need(0) of none", none.need(0), BAD);
        due("term(0, 0, 0) of none", none.term(0, 0, 0), BAD);
    }

    private static void needOver(String bends, int lumbago, int want) {
        for (int spring = 0; spring <= 20; spring += 10) {
            LeapKings x = Checks.told(bends + "plain " + spring + " 1 1;lumbago " + lumbago + ";");
            due("need(1) over " + bends + " with LUMBAGO " + lumbago, x.need(1), want);
            due("need(0), none is his", x.need(0), NONE);
        }
    }

    private static void need() {
        CHECKS.of("20: The least SPRING (0 to 20) of an HEIR by which he is CLEAN in the first REIGN (1 to 60) that is his .. NONE: by none, or none is his");
        needOver("stool 9 1 1;", 0, 0);
        needOver("stool 9 2 1;", 0, 0);
        needOver("stool 9 3 1;", 0, 1);
        needOver("stool 9 1 1;", 9, 9);
        needOver("plain 9 20 1;", 0, 20);
        needOver("plain 9 20 1;", 1, NONE);
        needOver("plain 9 11 1;", 9, 20);
        needOver("plain 9 12 1;", 9, NONE);
        needOver("tall 9 13 1;", 0, 20);
        needOver("tall 9 14 1;", 0, NONE);
        needOver("stooped 9 15 1;", 9, 20);
        needOver("stooped 9 16 1;", 9, NONE);
    }

    private static void needInTurn() {
        // All CLEAN: 1 over 0, 3 over 2, 5 over 4.
        LeapKings x = Checks.told("plain 20 3 1;plain 20 1 1;plain 20 7 1;plain 20 1 1;plain 20 11 1;plain 20 1 1;");
        CHECKS.dueAll("need", new long[] {x.need(1), x.need(3), x.need(5)}, 3, 7, 11);
        CHECKS.dueAll("need, none is his", new long[] {x.need(0), x.need(2), x.need(4)}, NONE, NONE, NONE);
    }

    private static void needLate() {
        // The first that is 5's is the 21st: he falls in it if FALLS are more than behind the 20th.
        LeapKings x = Checks.told("stool 15 11 1;stooped 2 10 1;stooped 10 6 1;stooped 12 12 1;plain 19 4 1;plain 16 13 1;lumbago 6;");
        due("soonest(5)", x.soonest(5), 21);
        int need = x.need(5);
        x.alter(5, 1, need);
        due("CLEAN by need()", x.runs(21, 2) - x.runs(20, 2), 0);
        x.alter(5, 1, need - 1);
        due("FALLEN by less", x.runs(21, 2) - x.runs(20, 2), 1);
        due("need(5) is the same by any", x.need(5), need);
    }

    private static void orderIs(LeapKings x, int n, int which, int works) {
        due("order(" + n + ", 0)", x.order(n, 0), which);
        due("order(" + n + ", 1)", x.order(n, 1), works);
    }

    private static void order() {
        CHECKS.of("21: Two PLACES .. so that WORKS are most behind n REIGNS (0 to 60), more than as it is: 10 times the lesser and the greater .. NONE: by none");
        orderIs(sixClean(3, 9), 1, NONE, NONE);
        orderIs(sixClean(9, 3), 1, 1, 9);
        orderIs(sixClean(9, 9), 1, NONE, NONE);
        orderIs(sixClean(9, 3), 0, NONE, NONE);
        orderIs(sixClean(9, 3), 60, NONE, NONE);
        orderIs(sixClean(9, 3), 59, 1, 9);
        // The first and the third build, the second pulls down: PLACES 1 and 5, 3.
        orderIs(sixClean(1, 30, 1, 1, 30, 1), 3, 45, 59);
        orderIs(sixClean(1, 30, 30, 1, 1, 1), 3, 25, 59);
        // Who bends is changed: by 0 and 5 alone is 1 CLEAN.
        orderIs(Checks.told("tall 0 20 1;plain 9 20 20;plain 0 20 1;plain 0 20 1;plain 0 20 1;plain 0 1 1;"), 1, 5, 20);
        CHECKS.of("21: of several the least (what 0), WORKS then (1)");
        orderIs(sixClean(30, 1, 30, 30, 30, 30), 1, 1, 30);
        orderIs(sixClean(1, 1, 30, 30, 30, 30), 1, 12, 30);
        orderIs(sixClean(1, 1, 1, 1, 30, 30), 1, 14, 30);
        orderIs(sixClean(1, 1, 1, 1, 29, 30), 1, 15, 30);
        LeapKings most = sixClean(30, 1);
        most.works(998);
        orderIs(most, 1, NONE, NONE);
        most.works(997);
        orderIs(most, 1, 1, 999);
    }

    private static void stoolIs(LeapKings x, int n, int which, int falls) {
        due("stool(" + n + ", 0)", x.stool(n, 0), which);
        due("stool(" + n + ", 1)", x.stool(n, 1), falls);
    }

    private static void stool() {
        CHECKS.of("22: The HEIR who is to be a stool so that FALLS in n REIGNS (0 to 60) are fewest, fewer than as it is .. NONE: nobody");
        // A stool of BACK 20 has a HEIGHT of 14.
        LeapKings first = Checks.told("plain 9 20 1;plain 14 1 1;");
        stoolIs(first, 0, NONE, NONE);
        stoolIs(first, 1, 0, 0);
        stoolIs(first, 60, 0, 0);
        LeapKings low = Checks.told("plain 9 20 1;plain 13 1 1;");
        stoolIs(low, 1, NONE, NONE);
        stoolIs(low, 60, NONE, NONE);
        stoolIs(Checks.told("stool 9 20 1;plain 13 1 1;"), 1, NONE, NONE);
        stoolIs(Checks.told("plain 9 9 1;plain 9 1 1;"), 60, NONE, NONE);
        stoolIs(Checks.told("plain 14 1 1;".repeat(5) + "tall 1 20 1;line 5;"), 1, 5, 0);
        CHECKS.of("22: of several the first (what 0), how many these are (1)");
        // 1 FALLS over 0, 2 is CLEAN, 1 FALLS over 3. If 0 is a stool: CLEAN, 3 FALLS over 2, CLEAN. If 3 is: FALLS, CLEAN, CLEAN.
        String four = "plain 9 6 1;plain 5 1 1;plain 9 6 1;plain 5 6 1;";
        due("FALLS as it is", Checks.told(four).runs(3, 2), 2);
        int[] falls = {1, 2, 2, 1};
        for (int h = 0; h < 4; h++) {
            LeapKings x = Checks.told(four);
            x.alter(h, 0, 3);
            due("FALLS if " + h + " is a stool", x.runs(3, 2), falls[h]);
        }
        stoolIs(Checks.told(four), 3, 0, 1);
        LeapKings fallen = Checks.told("plain 9 20 1;plain 15 1 1;");
        fallen.reigns(1);
        due("FALLS that were", fallen.rule(5), 1);
        stoolIs(fallen, 1, 0, 0);
    }

    private static void termIs(LeapKings x, int h, int n, int which, int works) {
        due("term(" + h + ", " + n + ", 0)", x.term(h, n, 0), which);
        due("term(" + h + ", " + n + ", 1)", x.term(h, n, 1), works);
    }

    private static void term() {
        CHECKS.of("23: The TERM (1 to 30) of an HEIR by which WORKS are most behind n REIGNS (0 to 60), of several the least (what 0), WORKS then (1)");
        LeapKings two = Checks.told("plain 9 1 3;plain 9 1 3;works 50;");
        termIs(two, 1, 0, 1, 50);
        termIs(two, 1, 1, 30, 80);
        termIs(two, 1, 2, 1, 50);
        termIs(two, 1, 59, 30, 80);
        termIs(two, 1, 60, 1, 50);
        termIs(two, 0, 1, 1, 53);
        two.works(0);
        termIs(two, 1, 1, 30, 30);
        // What is beyond 999 is no more: the least by which it is reached.
        int[][] near = {{968, 30, 998}, {969, 30, 999}, {970, 29, 999}, {990, 9, 999}, {998, 1, 999}, {999, 1, 999}};
        for (int[] w : near) {
            two.works(w[0]);
            termIs(two, 1, 1, w[1], w[2]);
        }
        two.alter(1, 1, 0);
        two.works(50);
        termIs(two, 1, 1, 29, 65);
        two.works(990);
        termIs(two, 1, 1, 17, 999);
        two.reigns(1);
        two.works(50);
        termIs(two, 1, 1, 1, 49);
        two.works(0);
        termIs(two, 1, 1, 1, 0);
        LeapKings six = sixClean(7, 7, 7, 7, 7, 7);
        termIs(six, 5, 3, 30, 30);
        termIs(six, 5, 2, 1, 0);
    }

    private static void acheIs(LeapKings x, int n, int which, int works) {
        due("ache(" + n + ", 0)", x.ache(n, 0), which);
        due("ache(" + n + ", 1)", x.ache(n, 1), works);
    }

    private static void ache() {
        CHECKS.of("24: The LUMBAGO by which WORKS are most behind n REIGNS (0 to 60), of several the least (what 0), WORKS then (1)");
        // Over a HEIGHT of 1, CLEAN for 10 YEARS by a LUMBAGO below his SPRING; the second REIGN is better FALLEN.
        int[][] second = {{0, 0, 45}, {1, 1, 45}, {2, 2, 45}, {8, 8, 45}, {9, 9, 45}, {10, 0, 40}, {20, 0, 40}};
        for (int[] s : second) {
            LeapKings x = Checks.told("plain 9 1 3;plain 20 1 10;lumbago 5;");
            x.reigns(1);
            x.works(50);
            x.alter(1, 1, s[0]);
            acheIs(x, 1, s[1], s[2]);
            acheIs(x, 0, 0, 50);
        }
        LeapKings first = Checks.told("plain 9 1 3;plain 1 1 10;lumbago 9;works 50;");
        acheIs(first, 0, 0, 50);
        acheIs(first, 1, 0, 60);
        acheIs(first, 59, 0, 60);
        acheIs(first, 60, 0, 50);
        first.works(999);
        acheIs(first, 1, 0, 999);
        first.works(0);
        acheIs(first, 0, 0, 0);
        acheIs(first, 2, 0, 0);
        first.works(1);
        acheIs(first, 0, 0, 1);
        first.alter(1, 1, 0);
        first.works(50);
        acheIs(first, 1, 0, 55);
    }

    private static void builderIs(LeapKings x, int n, int which, int years) {
        due("builder(" + n + ", 0)", x.builder(n, 0), which);
        due("builder(" + n + ", 1)", x.builder(n, 1), years);
    }

    private static void builder() {
        CHECKS.of("25: The HEIR who REIGNS for most YEARS of odd REIGNS among n of them (1 to 60), of several the first (what 0), for how many (1)");
        LeapKings x = sixClean(1, 4, 1, 1, 1, 5);
        builderIs(x, 0, BAD, BAD);
        builderIs(x, 1, 1, 4);
        builderIs(x, 2, 1, 4);
        builderIs(x, 3, 5, 5);
        builderIs(x, 60, 5, 50);
        builderIs(x, 61, BAD, BAD);
        builderIs(sixClean(1, 5, 1, 1, 1, 5), 3, 1, 5);
        builderIs(sixClean(1, 1, 1, 5, 1, 5), 5, 3, 5);
        // From the second on: 5, 3, 1 build in turn; the 60th from now is 1's tenth.
        LeapKings even = sixClean(2, 2, 2, 2, 2, 2);
        even.reigns(1);
        builderIs(even, 1, 0, 0);
        builderIs(even, 2, 5, 2);
        builderIs(even, 59, 3, 20);
        builderIs(even, 60, 1, 20);
        // Three, all CLEAN: 1, 0, 2, 1, 0 REIGN, so 0 builds in the fifth alone, however often it is asked.
        LeapKings three = sixClean(9, 1, 1);
        builderIs(three, 4, 1, 1);
        builderIs(three, 5, 0, 9);
        builderIs(three, 5, 0, 9);
        builderIs(three, 3, 1, 1);
        CHECKS.of("25: YEARS of odd REIGNS, FALLEN for half");
        builderIs(Checks.told("plain 9 20 1;plain 9 1 9;"), 1, 1, 5);
        builderIs(Checks.told("plain 9 20 1;plain 9 1 9;"), 60, 1, 150);
        LeapKings most = sixClean(1, 30);
        most.works(999);
        builderIs(most, 3, 1, 60);
    }

    public static void main(String[] args) {
        stateAndBad();
        need();
        needInTurn();
        needLate();
        order();
        stool();
        term();
        ache();
        builder();
        CHECKS.finish();
    }
}
