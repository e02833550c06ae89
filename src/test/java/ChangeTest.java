/** Promises 9 to 13: what is changed. */
public final class ChangeTest {
    private static final Checks CHECKS = new Checks();
    private static final String THREE = "plain 8 6 10;tall 7 5 9;stool 3 7 7;lumbago 1;works 20;";

    private static void due(String call, long got, long want) {
        CHECKS.due(call, got, want);
    }

    private static void alterWithin(int what, int low, int high, int was) {
        LeapKings x = Checks.told(THREE);
        due("alter below", x.alter(1, what, low - 1), LeapKings.BAD);
        due("alter above", x.alter(1, what, high + 1), LeapKings.BAD);
        due("refused changes nothing", x.heir(1, what), was);
        due("alter to the least", x.alter(1, what, low), was);
        due("the least", x.heir(1, what), low);
        due("alter to the greatest", x.alter(1, what, high), low);
        due("the greatest", x.heir(1, what), high);
        for (int other = 0; other < 4; other++) {
            if (other != what) {
                due("what else he has", x.heir(1, other), Checks.told(THREE).heir(1, other));
            }
            due("what another has", x.heir(0, other), Checks.told(THREE).heir(0, other));
        }
    }

    private static void alter() {
        alterWithin(0, 0, 3, 1);
        alterWithin(1, 0, 20, 7);
        alterWithin(2, 1, 20, 5);
        alterWithin(3, 1, 30, 9);
        LeapKings x = Checks.told(THREE);
        due("alter(-1, ..)", x.alter(-1, 1, 1), LeapKings.BAD);
        due("alter(3, ..)", x.alter(3, 1, 1), LeapKings.BAD);
        due("alter(.., -1, ..)", x.alter(0, -1, 1), LeapKings.BAD);
        due("alter(.., 4, ..)", x.alter(0, 4, 1), LeapKings.BAD);
        due("alter with no HEIR", new LeapKings().alter(0, 1, 1), LeapKings.BAD);
    }

    private static void lumbagoAndWorks() {
        LeapKings x = Checks.told(THREE);
        due("lumbago(-1)", x.lumbago(-1), LeapKings.BAD);
        due("lumbago(10)", x.lumbago(10), LeapKings.BAD);
        due("lumbago(9)", x.lumbago(9), 1);
        due("lumbago(0)", x.lumbago(0), 9);
        due("LUMBAGO", x.rule(3), 0);
        due("works(-1)", x.works(-1), LeapKings.BAD);
        due("works(1000)", x.works(1000), LeapKings.BAD);
        due("works(999)", x.works(999), 20);
        due("works(0)", x.works(0), 999);
        due("WORKS", x.rule(2), 0);
    }

    private static void change() {
        LeapKings x = Checks.told(THREE);
        due("change(0, 2)", x.change(0, 2), 0);
        due("change(1, 0)", x.change(1, 0), 1);
        due("line(0)", x.line(0), 1);
        due("line(1)", x.line(1), 2);
        due("line(2)", x.line(2), 0);
        due("change(1, 1)", x.change(1, 1), LeapKings.BAD);
        due("change(-1, 1)", x.change(-1, 1), LeapKings.BAD);
        due("change(1, -1)", x.change(1, -1), LeapKings.BAD);
        due("change(3, 1)", x.change(3, 1), LeapKings.BAD);
        due("change(1, 3)", x.change(1, 3), LeapKings.BAD);
        due("line(0) then", x.line(0), 1);
    }

    private static void bear() {
        LeapKings x = Checks.told(THREE);
        x.change(0, 2);
        due("spring below", x.bear(-1, 1, 1), LeapKings.BAD);
        due("spring above", x.bear(21, 1, 1), LeapKings.BAD);
        due("back below", x.bear(1, 0, 1), LeapKings.BAD);
        due("back above", x.bear(1, 21, 1), LeapKings.BAD);
        due("term below", x.bear(1, 1, 0), LeapKings.BAD);
        due("term above", x.bear(1, 1, 31), LeapKings.BAD);
        due("HEIRS", x.rule(0), 3);
        due("bear(0, 1, 2)", x.bear(0, 1, 2), 4);
        due("bear(20, 20, 30)", x.bear(20, 20, 30), 5);
        due("bear(5, 6, 7)", x.bear(5, 6, 7), 6);
        due("bear beyond", x.bear(5, 6, 7), LeapKings.FULL);
        due("bear bad beyond", x.bear(5, 6, 31), LeapKings.BAD);
        int[] last = {0, 5, 6, 7, 6, 5};
        for (int what = 0; what <= 5; what++) {
            due("heir(5, " + what + ")", x.heir(5, what), last[what]);
        }
        due("line(0)", x.line(0), 2);
        due("line(3)", x.line(3), 3);
        due("line(5)", x.line(5), 5);
        due("LUMBAGO", x.rule(3), 1);
        LeapKings y = new LeapKings();
        due("bear the first", y.bear(1, 2, 3), 1);
        due("line(0) of one", y.line(0), 0);
    }

    public static void main(String[] args) {
        alter();
        lumbagoAndWorks();
        change();
        bear();
        CHECKS.finish();
    }
}
