import java.util.ArrayList;
import java.util.Arrays;
import java.util.List;

/**
 * Every number of every call, on every stage: the last that is taken and the first that is refused on either
 * side, STATE and FULL behind BAD, and that what is refused or only asked changes nothing.
 */
public final class BoundsTest {
    private static final Checks CHECKS = new Checks();
    private static final int LEAST = Integer.MIN_VALUE, GREATEST = Integer.MAX_VALUE;

    private enum Way {
        ASKS, ASKS_OF_TWO, CHANGES, CHANGES_IF_TWO
    }

    private interface Call {
        long on(LeapKings x, int[] n);
    }

    /** The numbers that are taken (low above high: none), and what a number below them answers. */
    private record Range(int low, int high, int below) {
        boolean takes(int v) {
            return v >= low && v <= high;
        }

        int some() {
            return takes(0) ? 0 : low;
        }

        boolean isEmpty() {
            return low > high;
        }
    }

    private record Row(String words, String name, Way way, Call call, Range... ranges) {
        boolean needsTwo() {
            return way == Way.ASKS_OF_TWO || way == Way.CHANGES_IF_TWO;
        }

        boolean onlyAsks() {
            return way == Way.ASKS || way == Way.ASKS_OF_TWO;
        }

        boolean takesNone() {
            return Arrays.stream(ranges).anyMatch(Range::isEmpty);
        }
    }

    private static Range to(int low, int high) {
        return new Range(low, high, LeapKings.BAD);
    }

    private static final Range ANY = to(LEAST, GREATEST), BIT = to(0, 1), SIXTY = to(0, 60), FROM_ONE = to(1, 60);

    private final Stage stage;
    private final List<Row> rows = new ArrayList<>();

    private BoundsTest(Stage stage) {
        this.stage = stage;
        Range heirs = to(0, stage.heirs - 1);
        textRows(heirs);
        changeRows(heirs);
        reignRows(heirs);
        bestRows(heirs);
        seenRows(heirs);
        sheetRows();
    }

    private void row(String words, String name, Way way, Call call, Range... ranges) {
        rows.add(new Row(words, name, way, call, ranges));
    }

    private void textRows(Range heirs) {
        row("2: A byte (0 to 127) .. BAD", "feed", Way.CHANGES, (x, n) -> x.feed(n[0]), to(0, 127));
        row("3: its first n bytes .. BAD", "end", Way.CHANGES, (x, n) -> x.end(n[0]), to(0, stage.bytes));
        row("5: The FAULT of the latest text()", "fault", Way.ASKS, (x, n) -> x.fault());
        row("6: 0 HEIRS, .. 5 FALLS. BAD", "rule", Way.ASKS, (x, n) -> x.rule(n[0]), to(0, 5));
        row("7: Of an HEIR: 0 KIND, .. 5 his PLACE .. BAD", "heir", Way.ASKS, (x, n) -> x.heir(n[0], n[1]), heirs, to(0, 5));
        row("8: Who is in a PLACE .. BAD", "line", Way.ASKS, (x, n) -> x.line(n[0]), heirs);
    }

    private void changeRows(Range heirs) {
        row("9: (what 0 to 3) of an HEIR", "alter to 1", Way.CHANGES, (x, n) -> x.alter(n[0], n[1], 1), heirs, to(0, 3));
        row("9: KIND .. becomes v", "alter KIND", Way.CHANGES, (x, n) -> x.alter(n[0], 0, n[1]), heirs, to(0, 3));
        row("9: SPRING .. becomes v", "alter SPRING", Way.CHANGES, (x, n) -> x.alter(n[0], 1, n[1]), heirs, to(0, 20));
        row("9: BACK .. becomes v", "alter BACK", Way.CHANGES, (x, n) -> x.alter(n[0], 2, n[1]), heirs, to(1, 20));
        row("9: TERM .. becomes v", "alter TERM", Way.CHANGES, (x, n) -> x.alter(n[0], 3, n[1]), heirs, to(1, 30));
        row("10: LUMBAGO becomes v .. BAD", "lumbago", Way.CHANGES, (x, n) -> x.lumbago(n[0]), to(0, 9));
        row("11: WORKS become v (0 to 999)", "works", Way.CHANGES, (x, n) -> x.works(n[0]), to(0, 999));
        Range unlike = to(1, stage.heirs - 1);
        row("12: Two PLACES .. BAD", "change with 0", Way.CHANGES, (x, n) -> x.change(n[0], 0), unlike);
        row("12: Two PLACES .. BAD", "change 0 with", Way.CHANGES, (x, n) -> x.change(0, n[0]), unlike);
        row("13: An HEIR more .. BAD", "bear", Way.CHANGES, (x, n) -> x.bear(n[0], n[1], n[2]), to(0, 20), to(1, 20), to(1, 30));
    }

    private void reignRows(Range heirs) {
        row("14: n REIGNS (0 to 30)", "reigns", Way.CHANGES_IF_TWO, (x, n) -> x.reigns(n[0]), to(0, 30));
        row("15: n of them (0 to 60): .. (what 0) .. (4)", "runs", Way.ASKS_OF_TWO, (x, n) -> x.runs(n[0], n[1]), SIXTY, to(0, 4));
        row("16: n of them (0 to 60): .. (what 0) .. (2)", "ahead", Way.ASKS_OF_TWO, (x, n) -> x.ahead(n[0], n[1], n[2]), heirs, SIXTY, to(0, 2));
        row("17: an HEIR REIGNS first. BAD", "soonest", Way.ASKS_OF_TWO, (x, n) -> x.soonest(n[0]), heirs);
        row("18: STATE: there are not two HEIRS", "again", Way.ASKS_OF_TWO, (x, n) -> x.again());
        row("19: STATE: there are not two HEIRS", "ruins", Way.ASKS_OF_TWO, (x, n) -> x.ruins());
        row("26: n REIGNS (0 to 8) .. v out of ten (0 to 10)", "luck", Way.ASKS_OF_TWO, (x, n) -> x.luck(n[0], n[1], n[2], n[3]), to(0, 10), heirs, to(0, 8), BIT);
        row("27: Likewise", "mean", Way.ASKS_OF_TWO, (x, n) -> x.mean(n[0], n[1], n[2]), to(0, 10), to(0, 8), BIT);
        row("33: n REIGNS (1 to 60) by a seed", "drift", Way.ASKS_OF_TWO, (x, n) -> x.drift(n[0], n[1], n[2]), ANY, FROM_ONE, BIT);
    }

    private void bestRows(Range heirs) {
        row("20: The least SPRING .. of an HEIR .. BAD", "need", Way.ASKS_OF_TWO, (x, n) -> x.need(n[0]), heirs);
        row("21: behind n REIGNS (0 to 60)", "order", Way.ASKS_OF_TWO, (x, n) -> x.order(n[0], n[1]), SIXTY, BIT);
        row("22: FALLS in n REIGNS (0 to 60)", "stool", Way.ASKS_OF_TWO, (x, n) -> x.stool(n[0], n[1]), SIXTY, BIT);
        row("23: behind n REIGNS (0 to 60)", "term", Way.ASKS_OF_TWO, (x, n) -> x.term(n[0], n[1], n[2]), heirs, SIXTY, BIT);
        row("24: behind n REIGNS (0 to 60)", "ache", Way.ASKS_OF_TWO, (x, n) -> x.ache(n[0], n[1]), SIXTY, BIT);
        row("25: among n of them (1 to 60)", "builder", Way.ASKS_OF_TWO, (x, n) -> x.builder(n[0], n[1]), FROM_ONE, BIT);
    }

    private void seenRows(Range heirs) {
        row("28: in the n-th REIGN (1 to 20) .. an HEIR", "see", Way.CHANGES, (x, n) -> x.see(n[0], n[1]), to(1, 20), heirs);
        row("29: SEEN are the first n alone .. BAD", "forget", Way.CHANGES, (x, n) -> x.forget(n[0]), to(0, stage.seen));
        row("30: KINDS of an HEIR .. BAD", "kinds", Way.ASKS_OF_TWO, (x, n) -> x.kinds(n[0]), heirs);
        row("31: SPRINGS of an HEIR .. BAD", "springs", Way.ASKS_OF_TWO, (x, n) -> x.springs(n[0]), heirs);
        row("32: the first (what 0), how many these are (1). BAD", "ask", Way.ASKS_OF_TWO, (x, n) -> x.ask(n[0], n[1]), heirs, BIT);
    }

    private void sheetRows() {
        Range sheets = to(0, 3);
        Range lanes = to(0, 2);
        row("34: IMAGE k (0, 1) .. BAD", "keep", Way.CHANGES, (x, n) -> x.keep(n[0]), BIT);
        row("35: All is as IMAGE k .. BAD", "back", Way.CHANGES, (x, n) -> x.back(n[0]), BIT);
        row("36: BAD: also n above 40; -10 - 4", "sheet", Way.CHANGES, (x, n) -> x.sheet(n[0], n[1], n[2]), sheets, lanes, new Range(0, 40, -14));
        row("37: BAD: k", "lay", Way.CHANGES, (x, n) -> x.lay(n[0], n[1], n[2]), sheets, ANY, ANY);
        row("38: BAD: k, lane, n", "read", Way.CHANGES, (x, n) -> x.read(n[0], n[1], n[2], n[3]), sheets, lanes, ANY, to(0, 20));
        row("39: The FAULT of the latest read()", "torn", Way.ASKS, (x, n) -> x.torn());
        row("40: How many: 0 SEEN, .. 5 all TERMS. BAD", "count", Way.ASKS, (x, n) -> x.count(n[0]), to(0, 5));
    }

    private String told(Row row, int[] numbers) {
        return stage + " " + row.name() + Arrays.toString(numbers);
    }

    private void leavesAll(Row row, int[] numbers, long want) {
        Twin.unchanged(CHECKS, told(row, numbers), stage::make, x -> row.call().on(x, numbers), want);
    }

    /** Numbers that are taken, as far as any is. */
    private static int[] someNumbers(Row row) {
        return Arrays.stream(row.ranges()).mapToInt(Range::some).toArray();
    }

    private static int[] greatestNumbers(Row row) {
        return Arrays.stream(row.ranges()).mapToInt(r -> r.isEmpty() ? 0 : r.high()).toArray();
    }

    private static int[] with(int[] numbers, int place, int v) {
        int[] all = numbers.clone();
        all[place] = v;
        return all;
    }

    private void refusesBelow(Row row, int place) {
        Range range = row.ranges()[place];
        if (range.low() == LEAST) return;
        int want = row.takesNone() ? LeapKings.BAD : range.below();
        for (int[] others : List.of(someNumbers(row), greatestNumbers(row))) {
            leavesAll(row, with(others, place, range.low() - 1), want);
            leavesAll(row, with(others, place, LEAST), want);
        }
    }

    private void refusesAbove(Row row, int place) {
        Range range = row.ranges()[place];
        if (range.high() == GREATEST) return;
        for (int[] others : List.of(someNumbers(row), greatestNumbers(row))) {
            leavesAll(row, with(others, place, Math.max(range.high() + 1, range.low())), LeapKings.BAD);
            leavesAll(row, with(others, place, GREATEST), LeapKings.BAD);
        }
    }

    /** A number at either end of its range: it is BAD on no stage that takes any. */
    private void takes(Row row, int[] numbers) {
        if (row.takesNone()) {
            leavesAll(row, numbers, LeapKings.BAD);
        } else if (row.needsTwo() && stage.heirs < 2) {
            leavesAll(row, numbers, LeapKings.STATE);
        } else if (row.onlyAsks()) {
            long answer = row.call().on(stage.make(), numbers);
            isTaken(row, numbers, answer);
            leavesAll(row, numbers, answer);
        } else {
            isTaken(row, numbers, row.call().on(stage.make(), numbers));
        }
    }

    private void isTaken(Row row, int[] numbers, long answer) {
        if (row.name().equals("fault") || row.name().equals("torn") || answer != LeapKings.BAD) return;
        CHECKS.due(told(row, numbers) + " is taken, BAD", 1, 0);
    }

    private void run() {
        for (Row row : rows) {
            CHECKS.of(row.words());
            takes(row, someNumbers(row));
            takes(row, greatestNumbers(row));
            for (int place = 0; place < row.ranges().length; place++) {
                refusesBelow(row, place);
                refusesAbove(row, place);
                if (!row.takesNone()) {
                    takes(row, with(someNumbers(row), place, row.ranges()[place].low()));
                    takes(row, with(someNumbers(row), place, row.ranges()[place].high()));
                }
            }
        }
    }

    /** What there is no more room for, by the stage that has none left. */
    private static void full() {
        CHECKS.of("FULL -3 .. what is refused changes nothing");
        Twin.unchanged(CHECKS, "feed(32)", Stage.FULL::make, x -> x.feed(32), LeapKings.FULL);
        Twin.unchanged(CHECKS, "bear(1, 1, 1)", Stage.FULL::make, x -> x.bear(1, 1, 1), LeapKings.FULL);
        Twin.unchanged(CHECKS, "reigns(1)", Stage.FULL::make, x -> x.reigns(1), LeapKings.FULL);
        Twin.unchanged(CHECKS, "reigns(30)", Stage.FULL::make, x -> x.reigns(30), LeapKings.FULL);
        Twin.unchanged(CHECKS, "reigns(0)", Stage.FULL::make, x -> x.reigns(0), 500);
        Twin.unchanged(CHECKS, "see(1, 0)", Stage.FULL::make, x -> x.see(1, 0), LeapKings.FULL);
        Twin.unchanged(CHECKS, "see(20, 5)", Stage.FULL::make, x -> x.see(20, 5), LeapKings.FULL);
    }

    private static void stages() {
        CHECKS.of("the stages are as told");
        for (Stage stage : Stage.values()) {
            LeapKings x = stage.make();
            CHECKS.due(stage + " HEIRS", x.rule(0), stage.heirs);
            CHECKS.due(stage + " bytes", x.count(2), stage.bytes);
            CHECKS.due(stage + " SEEN", x.count(0), stage.seen);
        }
        CHECKS.due("REIGNS of FULL", Stage.FULL.make().rule(1), 999);
        CHECKS.due("fault() of SOME", Stage.SOME.make().fault(), 2);
        CHECKS.due("torn() of SOME", Stage.SOME.make().torn(), 2);
    }

    public static void main(String[] args) {
        stages();
        for (Stage stage : Stage.values()) {
            new BoundsTest(stage).run();
        }
        full();
        CHECKS.finish();
    }
}
