/** Promises 26, 27 and 33: leaps that slip by odds, reigns by a seed. */
public final class SlipTest {
    private static final Checks CHECKS = new Checks();
    private static final LeapKings ONE = Checks.told("plain 1 1 1;");

    private static void due(String call, long got, long want) {
        CHECKS.due(call, got, want);
    }

    private static void fraction(String call, long above, long below, long wantAbove, long wantBelow) {
        due(call + " above", above, wantAbove);
        due(call + " below", below, wantBelow);
    }

    private static void luckIs(LeapKings x, int v, int h, int n, long above, long below) {
        fraction("luck(" + v + ", " + h + ", " + n + ")", x.luck(v, h, n, 0), x.luck(v, h, n, 1), above, below);
    }

    private static void meanIs(LeapKings x, int v, int n, long above, long below) {
        fraction("mean(" + v + ", " + n + ")", x.mean(v, n, 0), x.mean(v, n, 1), above, below);
    }

    /*
     * Three with a HEIGHT of 1. 1 over 0: CLEAN, then 0 over 2; FALLEN, then 2 over 0.
     * Behind CLEAN CLEAN the line is 1 2 0, CLEAN FALLEN 2 1 0, FALLEN CLEAN 1 0 2, FALLEN FALLEN 0 1 2.
     */
    private static final String THREE = "plain 9 1 10;plain 9 1 20;plain 9 1 5;works 30;";

    private static void luck() {
        LeapKings x = Checks.told(THREE);
        luckIs(x, 4, 0, 0, 0, 1);
        luckIs(x, 4, 1, 1, 1, 1);
        luckIs(x, 4, 0, 1, 0, 1);
        luckIs(x, 4, 0, 2, 3, 5);
        luckIs(x, 4, 2, 2, 2, 5);
        luckIs(x, 4, 1, 2, 0, 1);
        // In the third: 2 by CLEAN CLEAN, 1 by CLEAN FALLEN, 0 by FALLEN CLEAN, 1 by FALLEN FALLEN.
        luckIs(x, 4, 2, 3, 9, 25);
        luckIs(x, 4, 1, 3, 2, 5);
        luckIs(x, 4, 0, 3, 6, 25);
        luckIs(x, 0, 0, 2, 1, 1);
        luckIs(x, 10, 0, 2, 0, 1);
        luckIs(x, 10, 2, 2, 1, 1);
        due("REIGNS are as they were", x.rule(1), 0);
        due("line(0) is as it was", x.line(0), 0);
        x.alter(0, 2, 20);
        // 1 FALLS over 0 anyway, and so does 2.
        luckIs(x, 4, 2, 2, 1, 1);
        luckIs(x, 4, 1, 3, 1, 1);
    }

    private static void mean() {
        LeapKings x = Checks.told(THREE);
        meanIs(x, 4, 0, 30, 1);
        // 20 by six out of ten, 10 by four.
        meanIs(x, 4, 1, 46, 1);
        // CLEAN: 50 less 10 or 5: 40, 45. FALLEN: 40 less 5 or 3: 35, 37.
        meanIs(x, 5, 2, 157, 4);
        meanIs(x, 4, 2, 988, 25);
        meanIs(x, 0, 2, 40, 1);
        meanIs(x, 10, 2, 37, 1);
        x.works(0);
        x.reigns(1);
        x.works(0);
        meanIs(x, 3, 1, 0, 1);
        // A slip takes SPRING too, so that he can not be CLEAN again: 10 or 5, by an eighth each,
        // CLEAN twice, 10 by a quarter, CLEAN once, 5 by a half.
        LeapKings two = Checks.told("plain 1 1 10;plain 1 1 10;");
        meanIs(two, 5, 3, 55, 8);
        // Each is CLEAN (2 YEARS) by nine out of ten, else FALLEN (1 YEAR): what odd ones build, even ones pull down.
        LeapKings long8 = Checks.told("plain 20 1 2;plain 20 1 2;works 50;");
        meanIs(long8, 1, 7, 519, 10);
        meanIs(long8, 1, 8, 50, 1);
        luckIs(long8, 1, 1, 8, 1, 1);
        luckIs(long8, 1, 1, 0, 0, 1);
        LeapKings most = Checks.told(THREE);
        most.works(999);
        meanIs(most, 5, 1, 999, 1);
    }

    private static void refused() {
        LeapKings x = Checks.told(THREE);
        due("luck(-1, ..)", x.luck(-1, 0, 1, 0), LeapKings.BAD);
        due("luck(11, ..)", x.luck(11, 0, 1, 0), LeapKings.BAD);
        due("luck(.., -1, ..)", x.luck(1, -1, 1, 0), LeapKings.BAD);
        due("luck(.., 3, ..)", x.luck(1, 3, 1, 0), LeapKings.BAD);
        due("luck(.., -1, .)", x.luck(1, 0, -1, 0), LeapKings.BAD);
        due("luck(.., 9, .)", x.luck(1, 0, 9, 0), LeapKings.BAD);
        due("luck(.., -1)", x.luck(1, 0, 1, -1), LeapKings.BAD);
        due("luck(.., 2)", x.luck(1, 0, 1, 2), LeapKings.BAD);
        due("luck of one", ONE.luck(1, 0, 1, 0), LeapKings.STATE);
        due("luck bad of one", ONE.luck(1, 1, 1, 0), LeapKings.BAD);
        due("mean(-1, ..)", x.mean(-1, 1, 0), LeapKings.BAD);
        due("mean(11, ..)", x.mean(11, 1, 0), LeapKings.BAD);
        due("mean(.., -1, .)", x.mean(1, -1, 0), LeapKings.BAD);
        due("mean(.., 9, .)", x.mean(1, 9, 0), LeapKings.BAD);
        due("mean(.., -1)", x.mean(1, 1, -1), LeapKings.BAD);
        due("mean(.., 2)", x.mean(1, 1, 2), LeapKings.BAD);
        due("mean of one", ONE.mean(1, 1, 0), LeapKings.STATE);
        due("mean bad of one", ONE.mean(1, 9, 0), LeapKings.BAD);
    }

    private static void drift() {
        // Seed 0: 12345 (bits 0), -740551042 (21468), -1492899873 (9988): LUMBAGO 0, 8, 8.
        LeapKings two = Checks.told("plain 9 1 3;plain 8 1 10;lumbago 9;works 50;");
        due("drift(0, 1, 0)", two.drift(0, 1, 0), 60);
        due("drift(0, 1, 1)", two.drift(0, 1, 1), 0);
        due("drift(0, 2, 0)", two.drift(0, 2, 0), 55);
        due("drift(0, 2, 1)", two.drift(0, 2, 1), 1);
        due("drift(0, 3, 0)", two.drift(0, 3, 0), 60);
        due("drift(0, 3, 1)", two.drift(0, 3, 1), 2);
        // Seed -1: LUMBAGO 9, 9, 2.
        due("drift(-1, 2, 0)", two.drift(-1, 2, 0), 50);
        due("drift(-1, 3, 0)", two.drift(-1, 3, 0), 60);
        due("drift(-1, 3, 1)", two.drift(-1, 3, 1), 2);
        due("LUMBAGO is as it was", two.rule(3), 9);
        due("REIGNS are as they were", two.rule(1), 0);
        due("SPRING is as it was", two.heir(1, 1), 8);
        two.reigns(1);
        due("FALLS ahead", two.rule(5), 1);
        due("drift(0, 1, 1), of them alone", two.drift(0, 1, 1), 0);
        due("drift(0, 1, 0), an even one", two.drift(0, 1, 0), 45);
        due("drift(.., 0, .)", two.drift(0, 0, 0), LeapKings.BAD);
        due("drift(.., 61, .)", two.drift(0, 61, 0), LeapKings.BAD);
        due("drift(.., 2)", two.drift(0, 1, 2), LeapKings.BAD);
        due("drift(.., -1)", two.drift(0, 1, -1), LeapKings.BAD);
        due("drift of one", ONE.drift(0, 1, 0), LeapKings.STATE);
        due("drift bad of one", ONE.drift(0, 0, 0), LeapKings.BAD);
    }

    public static void main(String[] args) {
        luck();
        mean();
        refused();
        drift();
        CHECKS.finish();
    }
}
