/** The edges that the document names for A REIGN and for promises 14 to 19. */
public final class EdgeReignTest {
    private static final Checks CHECKS = new Checks();
    private static final int BAD = LeapKings.BAD, STATE = LeapKings.STATE, NONE = LeapKings.NONE;
    // 1 leaps over 0 for good.
    private static final String TWO_CLEAN = "plain 9 1 7;plain 9 1 7;works 3;";
    private static final String TWO_FALL = "plain 9 9 7;plain 3 9 7;works 3;";

    private static void due(String call, long got, long want) {
        CHECKS.due(call, got, want);
    }

    private static LeapKings afterReigns(String text, int n) {
        LeapKings x = Checks.told(text);
        Checks.reignAll(x, n);
        due("REIGNS", x.rule(1), n);
        return x;
    }

    private static void twoAtLeast() {
        CHECKS.of("A REIGN (of two HEIRS at least) .. STATE: there are not two HEIRS");
        LeapKings x = new LeapKings();
        due("reigns(0) of none", x.reigns(0), STATE);
        due("again() of none", x.again(), STATE);
        due("ruins() of none", x.ruins(), STATE);
        due("soonest(0) of none is BAD first", x.soonest(0), BAD);
        x.bear(1, 1, 1);
        due("reigns(0) of one", x.reigns(0), STATE);
        due("reigns(30) of one", x.reigns(30), STATE);
        due("reigns(31) of one is BAD first", x.reigns(31), BAD);
        due("runs(0, 0) of one", x.runs(0, 0), STATE);
        due("runs(0, 4) of one is STATE ahead of NONE", x.runs(0, 4), STATE);
        due("ahead(0, 0, 0) of one", x.ahead(0, 0, 0), STATE);
        due("soonest(0) of one", x.soonest(0), STATE);
        due("again() of one", x.again(), STATE);
        due("ruins() of one", x.ruins(), STATE);
        x.bear(1, 1, 1);
        due("reigns(1) of two", x.reigns(1), 1);
    }

    private static void leaps(String bends, int spring, int lumbago, boolean clean) {
        LeapKings x = Checks.told(bends + "plain " + spring + " 1 30;lumbago " + lumbago + ";");
        String call = "over " + bends + " by SPRING " + spring + ", LUMBAGO " + lumbago;
        due(call + ", FALLS", x.runs(1, 2), clean ? 0 : 1);
        due(call + ", YEARS", x.runs(1, 1), clean ? 30 : 15);
    }

    private static void justCleanAndJustNot() {
        CHECKS.of("CLEAN, if his SPRING less LUMBAGO is the HEIGHT of who bends or more; else he FALLS");
        String[] bends = {"plain 0 7 1;", "tall 0 7 1;", "stooped 0 7 1;", "stool 0 7 1;"};
        int[] heights = {7, 11, 5, 4};
        for (int kind = 0; kind < 4; kind++) {
            for (int lumbago = 0; lumbago <= 9; lumbago++) {
                leaps(bends[kind], heights[kind] + lumbago, lumbago, true);
                leaps(bends[kind], heights[kind] + lumbago - 1, lumbago, false);
            }
        }
        leaps("stool 0 1 1;", 0, 0, true);
        leaps("stool 0 1 1;", 0, 1, false);
        leaps("stool 0 1 1;", 9, 9, true);
        leaps("stool 0 1 1;", 8, 9, false);
        leaps("plain 0 20 1;", 20, 0, true);
        leaps("plain 0 20 1;", 20, 1, false);
        leaps("plain 0 20 1;", 19, 0, false);
        leaps("plain 0 11 1;", 20, 9, true);
        leaps("plain 0 12 1;", 20, 9, false);
        leaps("tall 0 20 1;", 20, 0, false);
    }

    private static void halfOfATerm() {
        CHECKS.of("CLEAN for his TERM, FALLEN for half of it (up)");
        for (int half = 1; half <= 15; half++) {
            for (int term = 2 * half - 1; term <= 2 * half; term++) {
                String he = " 1 " + term + ";";
                due("CLEAN, TERM " + term, Checks.told("plain 1 5 1;plain 5" + he).reigns(1), term);
                due("FALLEN, TERM " + term, Checks.told("plain 1 5 1;plain 4" + he).reigns(1), half);
            }
        }
    }

    private static void worksEnd() {
        CHECKS.of("odd ones .. add its YEARS to WORKS (999 at most)");
        int[][] odd = {{968, 998}, {969, 999}, {970, 999}, {999, 999}};
        for (int[] w : odd) {
            LeapKings x = Checks.told("plain 1 1 30;plain 1 1 30;");
            x.works(w[0]);
            due("runs(1, 0) from " + w[0], x.runs(1, 0), w[1]);
            due("reigns(1) from " + w[0], x.reigns(1), w[1]);
            due("YEARS are all", x.rule(4), 30);
        }
        CHECKS.of("even ones take them off (0 at least)");
        int[][] even = {{31, 1}, {30, 0}, {29, 0}, {0, 0}};
        for (int[] w : even) {
            LeapKings x = afterReigns("plain 1 1 30;plain 1 1 30;", 1);
            x.works(w[0]);
            due("runs(1, 0) from " + w[0], x.runs(1, 0), w[1]);
            due("reigns(1) from " + w[0], x.reigns(1), w[1]);
            due("YEARS are all", x.rule(4), 60);
        }
        CHECKS.of("odd ones (the first, the third)");
        LeapKings x = Checks.told(TWO_CLEAN);
        CHECKS.dueAll("WORKS", new long[] {x.reigns(1), x.reigns(1), x.reigns(1), x.reigns(1)}, 10, 3, 10, 3);
    }

    private static String alike(String heir, int n) {
        return heir.repeat(n);
    }

    private static void whoGoesBehind() {
        long[][] clean = {{0, 1}, {2, 0, 1}, {2, 3, 0, 1}, {2, 3, 4, 0, 1}, {2, 3, 4, 5, 0, 1}};
        long[][] fallen = {{0, 1}, {0, 2, 1}, {0, 2, 3, 1}, {0, 2, 3, 4, 1}, {0, 2, 3, 4, 5, 1}};
        for (int n = 2; n <= 6; n++) {
            CHECKS.of("CLEAN, who bent goes behind all others, and he behind him");
            LeapKings x = Checks.told(alike("plain 9 1 1;", n));
            x.reigns(1);
            CHECKS.dueAll("THE LINE of " + n, Checks.lineOf(x), clean[n - 2]);
            due("SPRING of who was CLEAN", x.heir(1, 1), 9);
            CHECKS.of("FALLEN, he alone goes behind all others, and his SPRING is 1 less");
            LeapKings y = Checks.told(alike("plain 9 20 1;", n));
            y.reigns(1);
            CHECKS.dueAll("THE LINE of " + n, Checks.lineOf(y), fallen[n - 2]);
            due("SPRING of who fell", y.heir(1, 1), 8);
            due("SPRING of who bent", y.heir(0, 1), 9);
        }
        CHECKS.of("his SPRING is 1 less (0 at least)");
        int[][] springs = {{20, 19}, {2, 1}, {1, 0}, {0, 0}};
        for (int[] s : springs) {
            LeapKings x = Checks.told("tall 9 20 1;plain " + s[0] + " 1 1;");
            x.reigns(1);
            due("SPRING from " + s[0], x.heir(1, 1), s[1]);
            due("FALLS", x.rule(5), 1);
        }
    }

    private static void noReignAndThirty() {
        CHECKS.of("14: n REIGNS (0 to 30): WORKS then");
        LeapKings x = Checks.told(TWO_CLEAN);
        due("reigns(0)", x.reigns(0), 3);
        due("REIGNS", x.rule(1), 0);
        due("reigns(31)", x.reigns(31), BAD);
        due("reigns(-1)", x.reigns(-1), BAD);
        due("REIGNS", x.rule(1), 0);
        due("reigns(30)", x.reigns(30), 3);
        due("REIGNS", x.rule(1), 30);
        due("YEARS", x.rule(4), 210);
        due("FALLS", x.rule(5), 0);
    }

    private static void aThousandReigns() {
        CHECKS.of("14: FULL: REIGNS would be 1000 or more");
        LeapKings x = afterReigns(TWO_CLEAN, 969);
        due("reigns(30) from 969", x.reigns(30), 10);
        due("REIGNS", x.rule(1), 999);
        due("reigns(1) from 999", x.reigns(1), LeapKings.FULL);
        due("reigns(0) from 999", x.reigns(0), 10);
        due("reigns(31) is BAD first", x.reigns(31), BAD);
        LeapKings y = afterReigns(TWO_CLEAN, 970);
        due("reigns(30) from 970", y.reigns(30), LeapKings.FULL);
        due("REIGNS stay", y.rule(1), 970);
        due("YEARS stay", y.rule(4), 6790);
        due("reigns(29) from 970", y.reigns(29), 10);
        due("YEARS of all", y.rule(4), 6993);
        CHECKS.of("BY REIGNS: as it would be from now on");
        due("runs(1, 0), the 1000th is even", y.runs(1, 0), 3);
        due("runs(2, 0), the 1001st is odd", y.runs(2, 0), 10);
        due("runs(60, 1) beyond", y.runs(60, 1), 420);
        LeapKings z = afterReigns(TWO_CLEAN, 998);
        due("runs(1, 0), the 999th is odd", z.runs(1, 0), 10);
    }

    private static void runsOf(LeapKings x, int n, long... want) {
        CHECKS.dueAll("runs(" + n + ", ..)", new long[] {x.runs(n, 0), x.runs(n, 1), x.runs(n, 2), x.runs(n, 3), x.runs(n, 4)}, want);
    }

    private static void runsOfNoneAndSixty() {
        CHECKS.of("15: BY REIGNS, n of them (0 to 60): .. (3: from 1 on; NONE), .. (4; NONE: n is 0)");
        LeapKings clean = Checks.told(TWO_CLEAN);
        runsOf(clean, 0, 3, 0, 0, NONE, NONE);
        runsOf(clean, 1, 10, 7, 0, NONE, 1);
        runsOf(clean, 59, 10, 413, 0, NONE, 1);
        runsOf(clean, 60, 3, 420, 0, NONE, 1);
        runsOf(clean, 61, BAD, BAD, BAD, BAD, BAD);
        LeapKings fall = Checks.told(TWO_FALL);
        runsOf(fall, 0, 3, 0, 0, NONE, NONE);
        runsOf(fall, 1, 7, 4, 1, 1, 1);
        runsOf(fall, 59, 7, 236, 59, 1, 1);
        runsOf(fall, 60, 3, 240, 60, 1, 1);
        fall.reigns(1);
        runsOf(fall, 0, 7, 0, 0, NONE, NONE);
        runsOf(fall, 1, 3, 4, 1, 1, 1);
        // HEIGHTS 4, 5, 6, 6, 6; CLEAN by 7, 9, 9, 11 are 1, 3, 0, 2; then 4 over 3 by 4 less 8.
        LeapKings fifth = Checks.told("stooped 17 6 1;plain 15 5 1;stooped 19 8 1;stooped 17 8 1;plain 4 6 1;lumbago 8;");
        runsOf(fifth, 4, 0, 4, 0, NONE, 2);
        runsOf(fifth, 5, 1, 5, 1, 5, 4);
        runsOf(fifth, 6, 0, 6, 1, 5, 0);
    }

    private static void aheadOfNoneAndSixty() {
        CHECKS.of("16: BY REIGNS, n of them (0 to 60): SPRING of an HEIR then (what 0), his PLACE (1), YEARS for which he REIGNS in them (2)");
        LeapKings x = Checks.told(TWO_FALL);
        int[] springs = {3, 2, 1, 0, 0};
        for (int n = 0; n < springs.length; n++) {
            due("ahead(1, " + n + ", 0)", x.ahead(1, n, 0), springs[n]);
        }
        due("ahead(1, 60, 0)", x.ahead(1, 60, 0), 0);
        due("ahead(0, 60, 0)", x.ahead(0, 60, 0), 9);
        due("ahead(1, 0, 2)", x.ahead(1, 0, 2), 0);
        due("ahead(1, 1, 2)", x.ahead(1, 1, 2), 4);
        due("ahead(1, 60, 2)", x.ahead(1, 60, 2), 240);
        due("ahead(0, 60, 2), who bends", x.ahead(0, 60, 2), 0);
        x.reigns(3);
        due("ahead(1, 0, 2), not what was", x.ahead(1, 0, 2), 0);
        due("ahead(1, 2, 2), FALLEN with no SPRING", x.ahead(1, 2, 2), 8);
        LeapKings six = Checks.told(alike("plain 9 1 5;", 6));
        // 0 1 2 3 4 5, 2 3 4 5 0 1, 4 5 0 1 2 3, and again.
        int[][] places = {{0, 4, 2, 0}, {5, 3, 1, 5}};
        for (int n = 0; n <= 3; n++) {
            due("ahead(0, " + n + ", 1)", six.ahead(0, n, 1), places[0][n]);
            due("ahead(5, " + n + ", 1)", six.ahead(5, n, 1), places[1][n]);
        }
        due("ahead(0, 60, 1)", six.ahead(0, 60, 1), 0);
        due("ahead(5, 59, 1)", six.ahead(5, 59, 1), 1);
        due("ahead(5, 60, 2)", six.ahead(5, 60, 2), 100);
    }

    private static void soonestIs(LeapKings x, int h, int want) {
        due("soonest(" + h + ")", x.soonest(h), want);
        for (int n = 1; n <= 60 && n != want; n++) {
            CHECKS.due("who REIGNS in " + n + " is " + h, x.runs(n, 4) == h ? 1 : 0, 0);
        }
        if (want != NONE) {
            due("who REIGNS in " + want, x.runs(want, 4), h);
        }
    }

    private static void soonest() {
        CHECKS.of("17: BY REIGNS: in which one (1 to 60) an HEIR REIGNS first .. NONE: in none");
        LeapKings two = Checks.told(TWO_CLEAN);
        soonestIs(two, 1, 1);
        soonestIs(two, 0, NONE);
        LeapKings six = Checks.told(alike("plain 9 1 5;", 6));
        soonestIs(six, 1, 1);
        soonestIs(six, 5, 3);
        soonestIs(six, 4, NONE);
        // A search through many dynasties found none in which one has to wait for longer than this.
        LeapKings late = Checks.told("stool 15 11 1;stooped 2 10 1;stooped 10 6 1;stooped 12 12 1;plain 19 4 1;plain 16 13 1;lumbago 6;");
        for (int n = 1; n <= 20; n++) {
            due("who REIGNS in " + n + " is 5", late.runs(n, 4) == 5 ? 1 : 0, 0);
        }
        due("who REIGNS in 21", late.runs(21, 4), 5);
        due("soonest(5)", late.soonest(5), 21);
        due("soonest(1)", late.soonest(1), 1);
    }

    private static boolean isByOrder(LeapKings x, int heirs) {
        int i = 0;
        while (i < heirs && x.line(i) == i) {
            i++;
        }
        return i == heirs;
    }

    /** Plays on until THE LINE is by order again, as it was at first. */
    private static int playedAgain(String text) {
        LeapKings x = Checks.told(text);
        int heirs = x.rule(0);
        for (int n = 1; n <= 62; n++) {
            x.reigns(1);
            if (isByOrder(x, heirs)) {
                return n;
            }
        }
        return NONE;
    }

    private static void againIs(String text, int played, int want) {
        due("played", playedAgain(text), played);
        due("again()", Checks.told(text).again(), want);
    }

    private static void again() {
        CHECKS.of("18: BY REIGNS: behind how many (1 to 60) THE LINE first is as it is now .. NONE: behind none");
        againIs(TWO_CLEAN, 1, 1);
        againIs(TWO_FALL, 1, 1);
        againIs(alike("plain 9 1 5;", 5), 5, 5);
        againIs(alike("plain 9 1 5;", 6), 3, 3);
        againIs(alike("plain 0 1 5;", 6), 5, 5);
        againIs("tall 10 2 1;tall 12 8 1;tall 18 8 1;tall 20 5 1;tall 12 7 1;lumbago 5;", 59, 59);
        againIs("tall 20 6 1;tall 19 8 1;stooped 15 6 1;stooped 10 3 1;stool 8 4 1;plain 16 2 1;lumbago 8;", 60, 60);
        againIs("stool 9 10 1;stooped 6 11 1;tall 8 2 1;stooped 19 12 1;tall 15 9 1;lumbago 1;", 61, NONE);
        againIs("plain 9 2 9;tall 3 2 5;plain 0 9 4;lumbago 1;", NONE, NONE);
    }

    private static void ruins() {
        CHECKS.of("19: BY REIGNS: behind how many (0 to 60) nothing stands of WORKS first .. NONE: behind none");
        // All FALL over 0: 1 builds 14, 2 pulls 15 down.
        String down = "plain 0 20 1;plain 0 1 28;plain 0 1 30;";
        int[][] even = {{0, 0}, {1, 2}, {2, 4}, {29, 58}, {30, 60}, {31, NONE}};
        for (int[] w : even) {
            LeapKings x = Checks.told(down);
            x.works(w[0]);
            due("ruins() from " + w[0], x.ruins(), w[1]);
        }
        // From the second on: 15 down, then one less by each two.
        int[][] odd = {{0, 0}, {1, 1}, {15, 1}, {16, 3}, {44, 59}, {45, NONE}};
        for (int[] w : odd) {
            LeapKings x = afterReigns(down, 1);
            x.works(w[0]);
            due("ruins() from " + w[0] + " by the second", x.ruins(), w[1]);
        }
        // All CLEAN: 1 builds 5, 3 pulls 7 down: 6, 11, 4, 9, 2, 7, 0.
        due("ruins() by who are CLEAN", Checks.told("plain 9 1 1;plain 9 1 5;plain 9 1 1;plain 9 1 7;works 6;").ruins(), 6);
        due("ruins(), never", Checks.told(TWO_CLEAN).ruins(), NONE);
    }

    public static void main(String[] args) {
        twoAtLeast();
        justCleanAndJustNot();
        halfOfATerm();
        worksEnd();
        whoGoesBehind();
        noReignAndThirty();
        aThousandReigns();
        runsOfNoneAndSixty();
        aheadOfNoneAndSixty();
        soonest();
        again();
        ruins();
        CHECKS.finish();
    }
}
