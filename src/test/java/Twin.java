import java.util.ArrayList;
import java.util.List;

/**
 * Two objects made alike, of which one had a call more: whether anything that can be asked tells them apart.
 * To look at images, sheets and the tape spoils an object, so each look has a new one.
 */
final class Twin {
    interface Making {
        LeapKings make();
    }

    interface Call {
        long on(LeapKings x);
    }

    enum Look {
        OPEN, SEEN, IMAGES, SHEETS, TAPE
    }

    private static final int[] CELLS = {0, 1, 2, 3, 5, 6, 39, 40};

    private Twin() {
    }

    /** The call answers as due, and nothing is changed by it. */
    static void unchanged(Checks checks, String name, Making making, Call call, long want) {
        for (Look look : Look.values()) {
            unchangedIn(checks, name, making, call, want, look);
        }
    }

    /** The same for a text with a fault, which THE TAPE and the fault tell of. */
    static void unchangedButTape(Checks checks, String name, Making making, Call call, long want) {
        for (Look look : Look.values()) {
            if (look != Look.TAPE) {
                unchangedIn(checks, name, making, call, want, look);
            }
        }
    }

    private static void unchangedIn(Checks checks, String name, Making making, Call call, long want, Look look) {
        LeapKings x = making.make();
        checks.due(name, call.on(x), want);
        checks.dueAll(name + ", then " + look, at(x, look), at(making.make(), look));
    }

    private static long[] at(LeapKings x, Look look) {
        List<Integer> all = new ArrayList<>();
        switch (look) {
            case OPEN: open(x, all); break;
            case SEEN: seen(x, all); break;
            case IMAGES: images(x, all); break;
            case SHEETS: sheets(x, all); break;
            default: tape(x, all); break;
        }
        return all.stream().mapToLong(v -> v).toArray();
    }

    private static void open(LeapKings x, List<Integer> all) {
        for (int i = 0; i < 6; i++) {
            all.add(x.rule(i));
            all.add(x.line(i));
            all.add(x.kinds(i));
            all.add(x.springs(i));
            for (int what = 0; what < 6; what++) {
                all.add(x.heir(i, what));
            }
        }
        for (int what : new int[] {0, 1, 3, 4, 5}) {
            all.add(x.count(what));
        }
        all.add(x.torn());
    }

    /** What is SEEN shows in springs() and kinds(), of two heirs at least, one by one from the last. */
    private static void seen(LeapKings x, List<Integer> all) {
        x.bear(9, 9, 9);
        x.bear(9, 9, 9);
        for (int n = x.count(0); n >= 0; n--) {
            all.add(x.forget(n));
            for (int h = 0; h < 6; h++) {
                all.add(x.kinds(h));
                all.add(x.springs(h));
            }
        }
    }

    private static void images(LeapKings x, List<Integer> all) {
        for (int k = 0; k < 2; k++) {
            all.add(x.back(k));
            open(x, all);
        }
    }

    private static void sheets(LeapKings x, List<Integer> all) {
        for (int k = 0; k < 4; k++) {
            for (int lane = 0; lane < 3; lane++) {
                for (int n = 1; n <= 3; n++) {
                    all.add(x.read(k, lane, 2 * n - 2, n));
                    all.add(x.torn());
                    all.add(x.count(4));
                }
            }
            for (int i : CELLS) {
                all.add(x.lay(k, i, 1));
            }
        }
    }

    private static void tape(LeapKings x, List<Integer> all) {
        all.add(x.fault());
        all.add(x.count(2));
        all.add(x.text());
        all.add(x.fault());
        open(x, all);
    }
}
