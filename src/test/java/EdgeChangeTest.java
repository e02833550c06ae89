/** The edges that the document names for what is changed: promises 9 to 13. */
public final class EdgeChangeTest {
    private static final Checks CHECKS = new Checks();
    private static final int BAD = LeapKings.BAD;
    private static final String FOUR = "plain 8 6 10;tall 7 5 9;stooped 5 8 8;stool 3 7 7;line 2 0;";

    private static void due(String call, long got, long want) {
        CHECKS.due(call, got, want);
    }

    private static void aTrait(int what, int low, int high) {
        LeapKings x = Checks.told(FOUR);
        for (int h : new int[] {0, 3}) {
            int was = x.heir(h, what);
            due("alter to what it is", x.alter(h, what, was), was);
            due("alter to the least", x.alter(h, what, low), was);
            due("below the least", x.alter(h, what, low - 1), BAD);
            due("the least", x.heir(h, what), low);
            due("alter to the greatest", x.alter(h, what, high), low);
            due("above the greatest", x.alter(h, what, high + 1), BAD);
            due("the greatest", x.heir(h, what), high);
        }
        due("of who is none", x.alter(4, what, high), BAD);
        due("of who is none", x.alter(-1, what, high), BAD);
        CHECKS.dueAll("THE LINE", Checks.lineOf(x), 2, 0, 1, 3);
    }

    private static void alter() {
        CHECKS.of("9: KIND, SPRING, BACK, TERM (what 0 to 3) of an HEIR becomes v: what it was. BAD");
        aTrait(0, 0, 3);
        aTrait(1, 0, 20);
        aTrait(2, 1, 20);
        aTrait(3, 1, 30);
        LeapKings x = Checks.told(FOUR);
        due("HEIGHT is not altered", x.alter(0, 4, 5), BAD);
        due("PLACE is not altered", x.alter(0, 5, 1), BAD);
        due("nor what is below KIND", x.alter(0, -1, 1), BAD);
        due("what is KIND's greatest, is SPRING's too", x.alter(0, 1, 3), 8);
        due("what is TERM's greatest, is not BACK's", x.alter(0, 2, 30), BAD);
        due("with no HEIRS", new LeapKings().alter(0, 0, 0), BAD);
        LeapKings one = Checks.told("plain 1 1 1;");
        due("the one HEIR", one.alter(0, 3, 30), 1);
        due("the HEIR behind him", one.alter(1, 3, 30), BAD);
    }

    private static void lumbago() {
        CHECKS.of("10: LUMBAGO becomes v: what it was. BAD");
        LeapKings x = new LeapKings();
        due("lumbago(9), with no HEIRS", x.lumbago(9), 0);
        due("lumbago(10)", x.lumbago(10), BAD);
        due("lumbago(9) again", x.lumbago(9), 9);
        due("lumbago(0)", x.lumbago(0), 9);
        due("lumbago(-1)", x.lumbago(-1), BAD);
        due("LUMBAGO", x.rule(3), 0);
    }

    private static void works() {
        CHECKS.of("11: WORKS become v (0 to 999): what they were. BAD");
        LeapKings x = new LeapKings();
        due("works(999), with no HEIRS", x.works(999), 0);
        due("works(1000)", x.works(1000), BAD);
        due("WORKS", x.rule(2), 999);
        due("works(100), above what can be told", x.works(100), 999);
        due("works(0)", x.works(0), 100);
        due("works(-1)", x.works(-1), BAD);
        due("WORKS then", x.rule(2), 0);
    }

    private static void change() {
        CHECKS.of("12: Two PLACES of THE LINE are changed with each other: who was in the first told one. BAD (also alike)");
        LeapKings x = Checks.told(FOUR);
        for (int i = 0; i < 4; i++) {
            due("change(" + i + ", " + i + ")", x.change(i, i), BAD);
            due("change(" + i + ", -1)", x.change(i, -1), BAD);
            due("change(-1, " + i + ")", x.change(-1, i), BAD);
            due("change(" + i + ", 4)", x.change(i, 4), BAD);
            due("change(4, " + i + ")", x.change(4, i), BAD);
        }
        due("change(4, 4)", x.change(4, 4), BAD);
        CHECKS.dueAll("THE LINE, as it was", Checks.lineOf(x), 2, 0, 1, 3);
        due("change(0, 3), the first and the last", x.change(0, 3), 2);
        CHECKS.dueAll("THE LINE", Checks.lineOf(x), 3, 0, 1, 2);
        due("change(3, 0), the other way", x.change(3, 0), 2);
        CHECKS.dueAll("THE LINE", Checks.lineOf(x), 2, 0, 1, 3);
        due("change(2, 1), side by side", x.change(2, 1), 1);
        CHECKS.dueAll("THE LINE", Checks.lineOf(x), 2, 1, 0, 3);
        due("PLACE of 1", x.heir(1, 5), 1);
        due("PLACE of 0", x.heir(0, 5), 2);
        LeapKings one = Checks.told("plain 1 1 1;");
        due("change(0, 0) of one", one.change(0, 0), BAD);
        due("change(0, 1) of one", one.change(0, 1), BAD);
        due("change(0, 0) of none", new LeapKings().change(0, 0), BAD);
        due("change(0, 1) of none", new LeapKings().change(0, 1), BAD);
        LeapKings two = Checks.told("plain 1 1 1;plain 2 2 2;");
        due("change(0, 1) of two", two.change(0, 1), 0);
        CHECKS.dueAll("THE LINE of two", Checks.lineOf(two), 1, 0);
    }

    private static void bear() {
        CHECKS.of("13: An HEIR more, plain, the last of THE LINE: how many there are. BAD; FULL");
        LeapKings x = new LeapKings();
        for (int n = 1; n <= 6; n++) {
            due("bear the " + n, x.bear(n == 1 ? 0 : 20, n == 1 ? 1 : 20, n == 1 ? 1 : 30), n);
            due("who is last", x.line(n - 1), n - 1);
            due("KIND", x.heir(n - 1, 0), 0);
            if (n > 1) {
                x.change(0, n - 1);
                x.alter(n - 1, 0, 3);
            }
        }
        CHECKS.dueAll("the first has the least", new long[] {x.heir(0, 1), x.heir(0, 2), x.heir(0, 3)}, 0, 1, 1);
        CHECKS.dueAll("the last has the most", new long[] {x.heir(5, 1), x.heir(5, 2), x.heir(5, 3)}, 20, 20, 30);
        // Each who was born last went to the first PLACE, and who was there to the last.
        CHECKS.dueAll("THE LINE", Checks.lineOf(x), 5, 0, 1, 2, 3, 4);
        due("bear the 7th", x.bear(1, 1, 1), LeapKings.FULL);
        due("BAD ahead of FULL: SPRING", x.bear(21, 1, 1), BAD);
        due("BAD ahead of FULL: BACK", x.bear(1, 0, 1), BAD);
        due("BAD ahead of FULL: TERM", x.bear(1, 1, 31), BAD);
        due("HEIRS", x.rule(0), 6);
        // Whoever was there before a text told fewer is not found again in who is born.
        Checks.tell(x, "stool 9 9 9;");
        due("bear behind a text", x.bear(1, 2, 3), 2);
        CHECKS.dueAll("he is as told", new long[] {x.heir(1, 0), x.heir(1, 1), x.heir(1, 2), x.heir(1, 3), x.heir(1, 5)}, 0, 1, 2, 3, 1);
    }

    public static void main(String[] args) {
        alter();
        lumbago();
        works();
        change();
        bear();
        CHECKS.finish();
    }
}
