/** The edges that the document names for leaps that slip and reigns by a seed: promises 26, 27 and 33. */
public final class EdgeSlipTest {
    private static final Checks CHECKS = new Checks();
    private static final int BAD = LeapKings.BAD, STATE = LeapKings.STATE;
    private static final String THREE = "plain 20 1 10;plain 20 1 20;plain 20 1 5;works 30;";

    private static void due(String call, long got, long want) {
        CHECKS.due(call, got, want);
    }

    private static void luckIs(LeapKings x, int v, int h, int n, long above, long below) {
        String call = "luck(" + v + ", " + h + ", " + n;
        due(call + ", 0)", x.luck(v, h, n, 0), above);
        due(call + ", 1)", x.luck(v, h, n, 1), below);
    }

    private static void meanIs(LeapKings x, int v, int n, long above, long below) {
        String call = "mean(" + v + ", " + n;
        due(call + ", 0)", x.mean(v, n, 0), above);
        due(call + ", 1)", x.mean(v, n, 1), below);
    }

    private static void stateAndBad() {
        CHECKS.of("BAD; STATE: there are not two HEIRS");
        LeapKings one = Checks.told("plain 1 1 1;");
        due("luck(0, 0, 0, 0)", one.luck(0, 0, 0, 0), STATE);
        due("luck(11, 0, 0, 0)", one.luck(11, 0, 0, 0), BAD);
        due("luck(0, 1, 0, 0)", one.luck(0, 1, 0, 0), BAD);
        due("mean(10, 8, 1)", one.mean(10, 8, 1), STATE);
        due("mean(10, 9, 1)", one.mean(10, 9, 1), BAD);
        due("drift(0, 60, 1)", one.drift(0, 60, 1), STATE);
        due("drift(0, 61, 1)", one.drift(0, 61, 1), BAD);
        due("drift(0, 0, 1)", one.drift(0, 0, 1), BAD);
        LeapKings none = new LeapKings();
        due("mean(0, 0, 0) of none", none.mean(0, 0, 0), STATE);
        due("luck(0, 0, 0, 0) of none", none.luck(0, 0, 0, 0), BAD);
        due("drift(0, 1, 0) of none", none.drift(0, 1, 0), STATE);
    }

    private static void luckOfNoneAndOne() {
        CHECKS.of("26: that in the last of them (n is 0: it is not) an HEIR REIGNS .. (0 is 0 by 1)");
        LeapKings x = Checks.told(THREE);
        for (int v = 0; v <= 10; v++) {
            for (int h = 0; h < 3; h++) {
                luckIs(x, v, h, 0, 0, 1);
                luckIs(x, v, h, 1, h == 1 ? 1 : 0, 1);
            }
        }
    }

    private static void neverAndAlways() {
        CHECKS.of("26: FALLS by v out of ten (0 to 10)");
        LeapKings x = Checks.told(THREE);
        int[] clean = {1, 0, 2, 1, 0, 2, 1, 0};
        int[] fallen = {1, 2, 1, 2, 1, 2, 1, 2};
        for (int n = 1; n <= 8; n++) {
            for (int h = 0; h < 3; h++) {
                luckIs(x, 0, h, n, h == clean[n - 1] ? 1 : 0, 1);
                luckIs(x, 10, h, n, h == fallen[n - 1] ? 1 : 0, 1);
            }
        }
        luckIs(x, 1, 0, 2, 9, 10);
        luckIs(x, 1, 2, 2, 1, 10);
        luckIs(x, 9, 0, 2, 1, 10);
        luckIs(x, 9, 2, 2, 9, 10);
        luckIs(x, 5, 0, 2, 1, 2);
        luckIs(x, 2, 0, 2, 4, 5);
    }

    private static void eightReigns() {
        CHECKS.of("26: In each of n REIGNS (0 to 8) .. Fractions are in lowest terms");
        // Summed up by fractions, path by path.
        LeapKings x = Checks.told(THREE);
        luckIs(x, 1, 0, 8, 6235659, 10000000);
        luckIs(x, 1, 1, 8, 157221, 1000000);
        luckIs(x, 1, 2, 8, 2192131, 10000000);
        luckIs(x, 3, 0, 8, 3553753, 10000000);
        luckIs(x, 5, 0, 8, 43, 128);
        luckIs(x, 5, 1, 8, 21, 64);
        luckIs(x, 5, 1, 7, 11, 32);
        luckIs(x, 9, 2, 8, 6975099, 10000000);
        // Here some FALL anyway, sooner or later.
        LeapKings y = Checks.told("plain 9 9 3;plain 10 1 11;plain 4 2 8;lumbago 1;works 5;");
        luckIs(y, 1, 0, 8, 5455359, 10000000);
        luckIs(y, 1, 2, 8, 15224, 78125);
        luckIs(y, 3, 2, 8, 1254651, 2500000);
        luckIs(y, 7, 1, 8, 714987, 10000000);
        luckIs(y, 7, 0, 7, 9639, 1000000);
    }

    private static void whoFallsAnyway() {
        CHECKS.of("26: who would be CLEAN FALLS by v out of ten .. (who would not, FALLS)");
        LeapKings x = Checks.told("tall 20 20 10;plain 20 1 20;plain 20 1 5;works 30;");
        for (int v = 0; v <= 10; v++) {
            luckIs(x, v, 2, 2, 1, 1);
            luckIs(x, v, 1, 7, 1, 1);
            luckIs(x, v, 2, 8, 1, 1);
            luckIs(x, v, 0, 8, 0, 1);
            meanIs(x, v, 2, 37, 1);
            // 10 up, 3 down, four times.
            meanIs(x, v, 8, 58, 1);
        }
    }

    private static void mean() {
        CHECKS.of("27: Likewise, the mean of WORKS behind them");
        LeapKings x = Checks.told(THREE);
        for (int v = 0; v <= 10; v++) {
            meanIs(x, v, 0, 30, 1);
        }
        meanIs(x, 0, 8, 40, 1);
        meanIs(x, 10, 8, 58, 1);
        meanIs(x, 1, 1, 49, 1);
        meanIs(x, 9, 1, 41, 1);
        meanIs(x, 1, 2, 3997, 100);
        meanIs(x, 1, 8, 3670623967L, 100000000);
        meanIs(x, 3, 8, 3710108707L, 100000000);
        meanIs(x, 5, 8, 10839, 256);
        meanIs(x, 9, 8, 5574530767L, 100000000);
        LeapKings y = Checks.told("plain 9 9 3;plain 10 1 11;plain 4 2 8;lumbago 1;works 5;");
        meanIs(y, 1, 8, 666643007, 50000000);
        meanIs(y, 7, 7, 24710503, 1250000);
    }

    private static void meanAtTheEnds() {
        CHECKS.of("27: WORKS (999 at most), (0 at least) by each path .. (0 is 0 by 1)");
        LeapKings x = Checks.told("plain 20 1 30;plain 20 1 30;");
        // 30 or 15 are built, 30 or 15 pulled down, by three out of ten 15.
        meanIs(x, 3, 1, 51, 2);
        meanIs(x, 3, 2, 63, 20);
        meanIs(x, 3, 8, 38385837, 4000000);
        x.works(960);
        meanIs(x, 3, 1, 1971, 2);
        meanIs(x, 3, 3, 492309, 500);
        x.works(999);
        meanIs(x, 0, 1, 999, 1);
        meanIs(x, 3, 1, 999, 1);
        meanIs(x, 3, 2, 1947, 2);
        meanIs(x, 3, 8, 96575667, 100000);
        x.reigns(1);
        x.works(0);
        for (int v = 0; v <= 10; v++) {
            meanIs(x, v, 1, 0, 1);
            meanIs(x, v, 0, 0, 1);
        }
    }

    /** LUMBAGO of the first REIGN by a seed: over a HEIGHT of 0 the least SPRING by which he is CLEAN. */
    private static int lumbagoBy(int seed) {
        LeapKings x = Checks.told("stool 0 1 1;plain 20 1 1;");
        int spring = 0;
        x.alter(1, 1, 0);
        while (spring < 20 && x.drift(seed, 1, 1) == 1) {
            spring++;
            x.alter(1, 1, spring);
        }
        return spring;
    }

    private static void bitsOfTheSeed() {
        CHECKS.of("33: ahead of each the seed becomes seed times 1103515245 and 12345; bits 16 to 30 of it modulo 10 is LUMBAGO");
        // What the seed is, what it becomes (it wraps around at 32 bits), LUMBAGO by that.
        int[][] seeds = {
            {-59267453, 0x00000000, 0}, {-115164386, 0x0000ffff, 0}, {-404969853, 0x00010000, 1},
            {-460866786, 0x0001ffff, 1}, {1297229443, 0x00088000, 8}, {1124378243, 0x00090000, 9},
            {778675843, 0x000a0000, 0}, {1304279838, 0x3fffffff, 3}, {1014474371, 0x40000000, 4},
            {-1861048701, 0x7fff0000, 7}, {-1916945634, 0x7fffffff, 7}, {2088216195, 0x80000000, 0},
            {2032319262, 0x8000ffff, 0}, {1742513795, 0x80010000, 1}, {286434947, 0xffff0000, 7},
            {230538014, 0xffffffff, 7}};
        for (int[] s : seeds) {
            due("the seed " + s[0] + " becomes", (int) (s[0] * 1103515245L + 12345L), s[1]);
            due("LUMBAGO by the seed " + s[0], lumbagoBy(s[0]), s[2]);
        }
        int[][] ends = {{0, 0}, {1, 8}, {-1, 9}, {Integer.MAX_VALUE, 9}, {Integer.MIN_VALUE, 0}};
        for (int[] s : ends) {
            due("LUMBAGO by the seed " + s[0], lumbagoBy(s[0]), s[1]);
        }
    }

    private static void driftOneAndSixty() {
        CHECKS.of("33: By itself, n REIGNS (1 to 60) by a seed .. WORKS in the end (what 0), FALLS in them (1)");
        for (int seed : new int[] {0, 1, -1, 7, Integer.MAX_VALUE, Integer.MIN_VALUE, 123456789}) {
            LeapKings x = Checks.told("plain 0 12 1;plain 20 1 30;lumbago 9;works 40;");
            long s = seed;
            int spring = 20;
            int works = 40;
            int falls = 0;
            for (int n = 1; n <= 60; n++) {
                s = s * 1103515245L + 12345L & 0xffffffffL;
                boolean clean = spring - s / 65536 % 32768 % 10 >= 12;
                int years = clean ? 30 : 15;
                works = n % 2 == 1 ? Math.min(999, works + years) : Math.max(0, works - years);
                falls += clean ? 0 : 1;
                spring = clean ? spring : Math.max(0, spring - 1);
                due("drift(" + seed + ", " + n + ", 0)", x.drift(seed, n, 0), works);
                due("drift(" + seed + ", " + n + ", 1)", x.drift(seed, n, 1), falls);
            }
            due("drift(" + seed + ", 0, 0)", x.drift(seed, 0, 0), BAD);
            due("drift(" + seed + ", 61, 0)", x.drift(seed, 61, 0), BAD);
            int told = x.drift(seed, 60, 0);
            x.lumbago(0);
            due("LUMBAGO that was told has no say", x.drift(seed, 60, 0), told);
        }
    }

    private static void driftFromTheSecond() {
        CHECKS.of("33: FALLS in them (1)");
        LeapKings x = Checks.told("plain 0 20 1;plain 0 1 30;works 99;");
        x.reigns(1);
        due("FALLS that were", x.rule(5), 1);
        due("drift(0, 1, 1)", x.drift(0, 1, 1), 1);
        due("drift(0, 60, 1)", x.drift(0, 60, 1), 60);
        due("drift(0, 1, 0), the second pulls down", x.drift(0, 1, 0), 99);
        due("drift(0, 60, 0)", x.drift(0, 60, 0), 114);
    }

    public static void main(String[] args) {
        stateAndBad();
        luckOfNoneAndOne();
        neverAndAlways();
        eightReigns();
        whoFallsAnyway();
        mean();
        meanAtTheEnds();
        bitsOfTheSeed();
        driftOneAndSixty();
        driftFromTheSecond();
        CHECKS.finish();
    }
}
