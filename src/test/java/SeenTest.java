/** Promises 28 to 32: from who reigned when. */
public final class SeenTest {
    private static final Checks CHECKS = new Checks();
    private static final LeapKings ONE = Checks.told("plain 1 1 1;");
    private static final int ALL = (1 << 21) - 1;

    private static void due(String call, long got, long want) {
        CHECKS.due(call, got, want);
    }

    private static void seeAndForget() {
        LeapKings x = Checks.told("plain 9 1 1;plain 9 1 1;");
        due("see(0, 0)", x.see(0, 0), LeapKings.BAD);
        due("see(21, 0)", x.see(21, 0), LeapKings.BAD);
        due("see(1, 2)", x.see(1, 2), LeapKings.BAD);
        due("see(1, -1)", x.see(1, -1), LeapKings.BAD);
        for (int i = 1; i <= 6; i++) {
            due("see the " + i, x.see(i == 6 ? 20 : 1, 1), i);
        }
        due("see beyond", x.see(1, 1), LeapKings.FULL);
        due("see bad beyond", x.see(0, 1), LeapKings.BAD);
        due("SEEN", x.count(0), 6);
        due("forget(7)", x.forget(7), LeapKings.BAD);
        due("forget(-1)", x.forget(-1), LeapKings.BAD);
        due("forget(6)", x.forget(6), 6);
        due("forget(2)", x.forget(2), 6);
        due("forget(3)", x.forget(3), LeapKings.BAD);
        due("forget(0)", x.forget(0), 2);
        due("SEEN then", x.count(0), 0);
        due("see with one HEIR", ONE.see(1, 0), 1);
        due("see with none", new LeapKings().see(1, 0), LeapKings.BAD);
    }

    /*
     * 1 leaps over 0, HEIGHT 4 by BACK 4 (plain 4, tall 6, stooped 3, stool 2), with SPRING 4.
     * CLEAN, the second is of 0 over 2; FALLEN, it is of 2 over 0.
     */
    private static final String THREE = "plain 9 4 1;plain 4 1 1;plain 9 1 1;";

    private static void kinds() {
        LeapKings x = Checks.told(THREE);
        due("kinds(0) of nothing SEEN", x.kinds(0), 15);
        x.see(2, 0);
        due("kinds(0), CLEAN", x.kinds(0), 13);
        due("kinds(1), whose HEIGHT has no say", x.kinds(1), 15);
        x.forget(0);
        x.see(2, 2);
        due("kinds(0), FALLEN", x.kinds(0), 2);
        due("kinds(2), by none", x.kinds(2), 0);
        x.see(2, 0);
        due("kinds(0), one as well as the other", x.kinds(0), 0);
        due("KIND is as it was", x.heir(0, 0), 0);
        due("kinds(3)", x.kinds(3), LeapKings.BAD);
        due("kinds(-1)", x.kinds(-1), LeapKings.BAD);
        due("kinds of one", ONE.kinds(0), LeapKings.STATE);
        due("kinds bad of one", ONE.kinds(1), LeapKings.BAD);
    }

    private static void springs() {
        LeapKings x = Checks.told(THREE);
        due("springs(1) of nothing SEEN", x.springs(1), ALL);
        x.see(2, 0);
        due("springs(1), CLEAN", x.springs(1), ALL - 15);
        x.lumbago(1);
        due("springs(1), with LUMBAGO", x.springs(1), ALL - 31);
        x.lumbago(0);
        x.forget(0);
        x.see(2, 2);
        due("springs(1), FALLEN", x.springs(1), 15);
        x.forget(0);
        x.see(1, 2);
        due("springs(1), by none", x.springs(1), 0);
        due("SPRING is as it was", x.heir(1, 1), 4);
        due("springs(3)", x.springs(3), LeapKings.BAD);
        due("springs(-1)", x.springs(-1), LeapKings.BAD);
        due("springs of one", ONE.springs(0), LeapKings.STATE);
        due("springs bad of one", ONE.springs(1), LeapKings.BAD);
    }

    private static void seenFromNowOn() {
        LeapKings x = Checks.told(THREE);
        x.see(1, 1);
        due("springs(0)", x.springs(0), ALL);
        x.reigns(1);
        due("springs(0), 0 REIGNS next", x.springs(0), 0);
        due("SEEN stay", x.count(0), 1);
    }

    private static void ask() {
        // Two HEIRS: 1 REIGNS for good, whatever his SPRING.
        LeapKings two = Checks.told("plain 9 4 1;plain 4 1 1;");
        due("ask(1, 0), for none", two.ask(1, 0), LeapKings.NONE);
        due("ask(1, 1), for none", two.ask(1, 1), LeapKings.NONE);
        LeapKings x = Checks.told(THREE);
        x.see(2, 2);
        x.see(2, 0);
        due("ask(1, 0), nothing fits", x.ask(1, 0), LeapKings.NONE);
        x.forget(0);
        // HEIGHT and LUMBAGO are 10: the second tells the 11 that are CLEAN from the 10 that are not.
        LeapKings half = Checks.told("plain 20 9 1;plain 4 1 1;plain 20 1 1;lumbago 1;");
        half.see(2, 0);
        due("springs(1), CLEAN", half.springs(1), ALL - 1023);
        half.forget(0);
        due("ask(1, 0)", half.ask(1, 0), 2);
        due("ask(1, 1)", half.ask(1, 1), 11);
        due("SEEN stay", half.count(0), 0);
        due("ask(3, ..)", x.ask(3, 0), LeapKings.BAD);
        due("ask(-1, ..)", x.ask(-1, 0), LeapKings.BAD);
        due("ask(.., 2)", x.ask(0, 2), LeapKings.BAD);
        due("ask(.., -1)", x.ask(0, -1), LeapKings.BAD);
        due("ask of one", ONE.ask(0, 0), LeapKings.STATE);
        due("ask bad of one", ONE.ask(0, 2), LeapKings.BAD);
    }

    public static void main(String[] args) {
        seeAndForget();
        kinds();
        springs();
        seenFromNowOn();
        ask();
        CHECKS.finish();
    }
}
