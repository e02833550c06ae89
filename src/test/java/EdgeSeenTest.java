/** The edges that the document names for what is SEEN: promises 28 to 32. */
public final class EdgeSeenTest {
    private static final Checks CHECKS = new Checks();
    private static final int BAD = LeapKings.BAD, STATE = LeapKings.STATE, NONE = LeapKings.NONE;
    private static final int ALL = (1 << 21) - 1;
    // By a search: what tells most of 1 comes in the last REIGN that may be asked for; the next would tell more.
    private static final String LATE = "stool 18 3 1;tall 14 7 1;tall 12 2 1;stool 2 16 1;tall 5 3 1;tall 10 6 1;lumbago 5;";

    private static void due(String call, long got, long want) {
        CHECKS.due(call, got, want);
    }

    /** 1 leaps over 0, who has that BACK: CLEAN, the second REIGN is 0's; FALLEN, it is 2's. */
    private static String over(int back, int spring) {
        return "plain 9 " + back + " 1;plain " + spring + " 1 1;plain 9 1 1;";
    }

    private static void see() {
        CHECKS.of("28: SEEN (6): in the n-th REIGN (1 to 20) from now on an HEIR REIGNS: how many are. BAD; FULL");
        LeapKings x = Checks.told(over(4, 4));
        due("see(0, 1)", x.see(0, 1), BAD);
        due("see(21, 1)", x.see(21, 1), BAD);
        due("see(1, 3)", x.see(1, 3), BAD);
        due("see(1, -1)", x.see(1, -1), BAD);
        due("SEEN", x.count(0), 0);
        due("see(1, 0)", x.see(1, 0), 1);
        due("see(20, 2)", x.see(20, 2), 2);
        due("see(20, 2), the same again", x.see(20, 2), 3);
        due("see the 4th", x.see(2, 1), 4);
        due("see the 5th", x.see(3, 1), 5);
        due("see the 6th", x.see(4, 1), 6);
        due("see the 7th", x.see(5, 1), LeapKings.FULL);
        due("see(0, 1), BAD ahead of FULL", x.see(0, 1), BAD);
        due("see(1, 3), BAD ahead of FULL", x.see(1, 3), BAD);
        due("SEEN", x.count(0), 6);
        x.forget(5);
        due("see the 6th again", x.see(5, 1), 6);
        due("see of one HEIR, no STATE", Checks.told("plain 1 1 1;").see(20, 0), 1);
        due("see of none", new LeapKings().see(1, 0), BAD);
    }

    private static void forget() {
        CHECKS.of("29: SEEN are the first n alone: how many there were. BAD");
        LeapKings x = Checks.told(over(4, 4));
        due("forget(0) of nothing", x.forget(0), 0);
        due("forget(1) of nothing", x.forget(1), BAD);
        due("forget(-1) of nothing", x.forget(-1), BAD);
        // The first comes true by all, the second if 1 is CLEAN, the third never.
        x.see(1, 1);
        x.see(2, 0);
        x.see(1, 2);
        due("springs(1) by three", x.springs(1), 0);
        due("forget(4)", x.forget(4), BAD);
        due("forget(-1)", x.forget(-1), BAD);
        due("forget(3), all stay", x.forget(3), 3);
        due("springs(1) by three", x.springs(1), 0);
        due("forget(2)", x.forget(2), 3);
        due("springs(1) by two", x.springs(1), ALL - 15);
        due("forget(3), what is gone does not come again", x.forget(3), BAD);
        due("forget(1)", x.forget(1), 2);
        due("springs(1) by one", x.springs(1), ALL);
        x.see(2, 2);
        due("springs(1) by one and another", x.springs(1), 15);
        due("forget(0)", x.forget(0), 2);
        due("springs(1) by nothing", x.springs(1), ALL);
        due("SEEN", x.count(0), 0);
    }

    private static void kinds() {
        CHECKS.of("30: KINDS of an HEIR (bits) by which, all else as it is, all is as SEEN");
        // BACK 4 is a HEIGHT of 4, 6, 3, 2.
        int[][] clean = {{6, 15}, {5, 13}, {4, 13}, {3, 12}, {2, 8}, {1, 0}};
        for (int[] c : clean) {
            LeapKings x = Checks.told(over(4, c[0]));
            due("kinds(0) of nothing SEEN", x.kinds(0), 15);
            x.see(2, 0);
            due("kinds(0), CLEAN by " + c[0], x.kinds(0), c[1]);
            x.forget(0);
            x.see(2, 2);
            due("kinds(0), FALLEN by " + c[0], x.kinds(0), 15 - c[1]);
            x.see(2, 0);
            due("kinds(0), by none", x.kinds(0), 0);
        }
        LeapKings x = Checks.told(over(4, 4));
        x.see(1, 1);
        due("kinds(2) by the first REIGN", x.kinds(2), 15);
        x.see(1, 0);
        due("kinds(2) by none", x.kinds(2), 0);
        due("kinds(0) of none", new LeapKings().kinds(0), BAD);
        LeapKings one = Checks.told("plain 1 1 1;");
        one.see(1, 0);
        due("kinds(0) of one", one.kinds(0), STATE);
        due("kinds(1) of one", one.kinds(1), BAD);
    }

    private static void springs() {
        CHECKS.of("31: SPRINGS of an HEIR (0 to 20; bits) by which, all else as it is, all is as SEEN");
        int[][] heights = {{1, 0}, {1, 9}, {2, 0}, {10, 0}, {10, 9}, {20, 0}, {11, 9}, {12, 9}, {20, 9}};
        for (int[] c : heights) {
            int below = (1 << Math.min(21, c[0] + c[1])) - 1;
            LeapKings x = Checks.told(over(c[0], 7));
            x.alter(0, 1, 20);
            x.lumbago(c[1]);
            due("springs(1) of nothing SEEN", x.springs(1), ALL);
            x.see(2, 0);
            due("springs(1), CLEAN over " + c[0] + " with " + c[1], x.springs(1), ALL - below);
            x.forget(0);
            x.see(2, 2);
            due("springs(1), FALLEN over " + c[0] + " with " + c[1], x.springs(1), below);
            x.see(2, 0);
            due("springs(1), by none", x.springs(1), 0);
        }
        LeapKings x = Checks.told(over(4, 4));
        x.see(1, 1);
        due("springs(1) by the first REIGN", x.springs(1), ALL);
        x.see(1, 2);
        due("springs(1) by none", x.springs(1), 0);
        due("springs(0) of none", new LeapKings().springs(0), BAD);
        LeapKings one = Checks.told("plain 1 1 1;");
        one.see(1, 0);
        due("springs(0) of one", one.springs(0), STATE);
        due("springs(1) of one", one.springs(1), BAD);
    }

    /** Who REIGNS in a REIGN if an HEIR has that KIND or SPRING. */
    private static int kingIf(String text, int h, int what, int v, int reign) {
        LeapKings x = Checks.told(text);
        x.alter(h, what, v);
        return x.runs(reign, 4);
    }

    private static int bitsIf(String text, int h, int what, int most, int reign, int king) {
        int bits = 0;
        for (int v = 0; v <= most; v++) {
            bits |= kingIf(text, h, what, v, reign) == king ? 1 << v : 0;
        }
        return bits;
    }

    private static void seenInTheLast() {
        CHECKS.of("28: in the n-th REIGN (1 to 20)");
        for (int reign : new int[] {1, 2, 19, 20}) {
            for (int king = 0; king < 6; king++) {
                LeapKings x = Checks.told(LATE);
                x.see(reign, king);
                due("springs(1) if " + king + " REIGNS in " + reign, x.springs(1), bitsIf(LATE, 1, 1, 20, reign, king));
                due("kinds(1) if " + king + " REIGNS in " + reign, x.kinds(1), bitsIf(LATE, 1, 0, 3, reign, king));
            }
        }
    }

    private static void fromNowOn() {
        CHECKS.of("28: from now on");
        LeapKings x = Checks.told(over(4, 4));
        x.see(2, 0);
        due("springs(0)", x.springs(0), ALL);
        x.reigns(1);
        // Now 0 is to leap over 2 in the first, and 1 or 2 in the second.
        due("springs(0), a REIGN later", x.springs(0), 0);
        x.forget(0);
        x.see(1, 0);
        due("springs(0), SEEN anew", x.springs(0), ALL);
    }

    /** How many of the springs (bits) are left at the worst, if it is told who REIGNS in a REIGN. */
    private static int worstLeft(String text, int h, int reign, int springs) {
        int worst = 0;
        for (int king = 0; king < 6; king++) {
            worst = Math.max(worst, Integer.bitCount(springs & bitsIf(text, h, 1, 20, reign, king)));
        }
        return worst;
    }

    private static void askIs(String text, int h, int which, int left) {
        for (int reign = 1; reign <= 20; reign++) {
            int then = worstLeft(text, h, reign, ALL);
            boolean fewer = then < left;
            boolean sooner = then == left && reign < which;
            due("in REIGN " + reign + " fewer are left, or as few sooner", fewer || sooner ? 1 : 0, 0);
        }
        LeapKings x = Checks.told(text);
        due("ask(" + h + ", 0)", x.ask(h, 0), which);
        due("ask(" + h + ", 1)", x.ask(h, 1), left);
    }

    private static void ask() {
        CHECKS.of("32: For which REIGN (1 to 20) to ask who REIGNS in it, so that of springs() of an HEIR fewest are left at the worst");
        due("in the 20th are left", worstLeft(LATE, 1, 20, ALL), 13);
        due("in the 21st would be left", worstLeft(LATE, 1, 21, ALL), 8);
        askIs(LATE, 1, 20, 13);
        CHECKS.of("32: the first (what 0), how many these are (1)");
        String half = "plain 20 9 1;plain 4 1 1;plain 20 1 1;lumbago 1;";
        due("in the 2nd are left", worstLeft(half, 1, 2, ALL), 11);
        askIs(half, 1, 2, 11);
        CHECKS.of("32: fewer than now .. NONE: for none");
        LeapKings two = Checks.told("plain 9 4 1;plain 4 1 1;");
        CHECKS.dueAll("1 REIGNS by any", new long[] {two.springs(1), two.ask(1, 0), two.ask(1, 1)}, ALL, NONE, NONE);
        LeapKings one = Checks.told(over(20, 4));
        one.see(2, 0);
        CHECKS.dueAll("one is left", new long[] {one.springs(1), one.ask(1, 0), one.ask(1, 1)}, 1 << 20, NONE, NONE);
        one.see(2, 2);
        CHECKS.dueAll("none is left", new long[] {one.springs(1), one.ask(1, 0), one.ask(1, 1)}, 0, NONE, NONE);
        // By the 21st seven of fourteen would be left, by none before it fewer than all.
        LeapKings late = Checks.told("tall 2 8 1;stooped 3 3 1;stooped 6 10 1;stool 9 18 1;stooped 16 16 1;plain 19 13 1;lumbago 2;");
        late.see(7, 3);
        due("fourteen are left", Integer.bitCount(late.springs(3)), 14);
        CHECKS.dueAll("the 21st is not asked for", new long[] {late.ask(3, 0), late.ask(3, 1)}, NONE, NONE);
        CHECKS.of("32: BAD; STATE");
        LeapKings alone = Checks.told("plain 1 1 1;");
        due("ask(0, 0) of one, STATE ahead of NONE", alone.ask(0, 0), STATE);
        due("ask(1, 0) of one", alone.ask(1, 0), BAD);
        due("ask(0, 2) of one", alone.ask(0, 2), BAD);
        due("ask(0, 0) of none", new LeapKings().ask(0, 0), BAD);
    }

    private static void askOfWhatIsLeft() {
        CHECKS.of("32: of springs() of an HEIR fewest are left");
        String text = "stool 2 11 1;stool 1 19 1;plain 18 8 1;stool 2 14 1;plain 1 14 1;lumbago 1;";
        int fits = bitsIf(text, 0, 1, 20, 6, 4);
        due("how many are left", Integer.bitCount(fits), 11);
        for (int reign = 1; reign < 20; reign++) {
            due("in REIGN " + reign + " seven or fewer are left", worstLeft(text, 0, reign, fits) <= 7 ? 1 : 0, 0);
        }
        due("in the 20th are left", worstLeft(text, 0, 20, fits), 7);
        LeapKings x = Checks.told(text);
        x.see(6, 4);
        due("springs(0)", x.springs(0), fits);
        due("ask(0, 0)", x.ask(0, 0), 20);
        due("ask(0, 1)", x.ask(0, 1), 7);
        CHECKS.of("32: fewer than now, by one");
        LeapKings y = Checks.told("stooped 8 15 1;plain 0 12 1;stooped 19 13 1;tall 6 5 1;tall 7 2 1;stooped 18 14 1;lumbago 3;");
        y.see(13, 0);
        due("how many are left", Integer.bitCount(y.springs(2)), 14);
        due("ask(2, 0)", y.ask(2, 0), 20);
        due("ask(2, 1)", y.ask(2, 1), 13);
    }

    public static void main(String[] args) {
        see();
        forget();
        kinds();
        springs();
        seenInTheLast();
        fromNowOn();
        ask();
        askOfWhatIsLeft();
        CHECKS.finish();
    }
}
