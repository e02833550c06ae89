import java.util.ArrayDeque;
import java.util.Deque;
import java.util.Random;

/** Runs of calls by fixed seeds, the class held against the model call by call. */
public final class ModelTest {
    private static final int RUNS = 1200;
    // An object is used for at most 512 calls; what a text (its bytes, text, fault) and a look at all take of them.
    private static final int CALLS = 512, TEXT = 250, LOOK = 90;
    private static final int[] ODD = {Integer.MIN_VALUE, Integer.MAX_VALUE, -1, -2, 61, 1000, 128, 255, 256, 65536};
    private static final String[] WORDS = {"plain ", "tall ", "stooped ", "stool ", "line ", "lumbago ", "works "};

    private final Random dice;
    private final LeapKings x = new LeapKings();
    private final Model y = new Model();
    private final Deque<String> told = new ArrayDeque<>();
    private int calls;

    private ModelTest(long seed) {
        dice = new Random(seed);
    }

    /** Mostly 0 to most, sometimes a little or far out of it. */
    private int number(int most) {
        int way = dice.nextInt(40);
        if (way == 0) return ODD[dice.nextInt(ODD.length)];
        if (way == 1) return most + 1;
        if (way == 2) return -1;
        if (way == 3) return most;
        return dice.nextInt(most + 1);
    }

    private String heirs() {
        StringBuilder s = new StringBuilder();
        int n = dice.nextInt(8) == 0 ? dice.nextInt(3) : 2 + dice.nextInt(5);
        for (int i = 0; i < n; i++) {
            s.append(WORDS[dice.nextInt(4)]).append(dice.nextInt(21)).append(' ');
            s.append(1 + dice.nextInt(20)).append(' ').append(1 + dice.nextInt(30)).append(';');
        }
        return s.toString();
    }

    private String someText() {
        StringBuilder s = new StringBuilder(heirs());
        if (dice.nextInt(3) == 0) s.insert(dice.nextBoolean() ? 0 : s.length(), "line " + dice.nextInt(3) + " " + dice.nextInt(6) + ";");
        if (dice.nextInt(3) == 0) s.append("lumbago ").append(dice.nextInt(11)).append(';');
        if (dice.nextInt(3) == 0) s.append("works ").append(dice.nextInt(100)).append(';');
        if (dice.nextInt(12) == 0) s.append(WORDS[dice.nextInt(WORDS.length)]);
        if (dice.nextInt(20) == 0) s.append(heirs());
        if (dice.nextInt(3) == 0 && s.length() > 0) {
            int at = dice.nextInt(s.length());
            int way = dice.nextInt(4);
            if (way == 0) s.deleteCharAt(at);
            else if (way == 1) s.setCharAt(at, (char) dice.nextInt(128));
            else if (way == 2) s.insert(at, "; 059l".charAt(dice.nextInt(6)));
            else s.setLength(at);
        }
        return s.toString();
    }

    private boolean hasRoom(int more) {
        return calls + more <= CALLS;
    }

    private void same(String call, long got, long want) {
        calls++;
        told.addLast(call + " = " + want);
        if (told.size() > 40) told.removeFirst();
        if (got != want) {
            told.forEach(System.out::println);
            System.out.println(call + " answered " + got + ", the model says " + want);
            System.exit(1);
        }
    }

    private void tellText() {
        String s = someText();
        for (int i = 0; i < s.length(); i++) {
            same("feed(" + (int) s.charAt(i) + ")", x.feed(s.charAt(i)), y.feed(s.charAt(i)));
        }
        same("text()", x.text(), y.text());
        same("fault()", x.fault(), y.fault());
    }

    private void layPair() {
        int k = dice.nextInt(4);
        int f = number(12) * 2;
        int h = number(5);
        int s = number(20);
        same("lay(" + k + "," + f + "," + h + ")", x.lay(k, f, h), y.lay(k, f, h));
        same("lay(" + k + "," + (f + 1) + "," + s + ")", x.lay(k, f + 1, s), y.lay(k, f + 1, s));
    }

    private void allTheState() {
        for (int i = -1; i <= 6; i++) {
            same("rule " + i, x.rule(i), y.rule(i));
            same("line " + i, x.line(i), y.line(i));
            same("count " + i, x.count(i), y.count(i));
            for (int w = -1; w <= 6; w++) same("heir " + i + " " + w, x.heir(i, w), y.heir(i, w));
        }
        same("torn()", x.torn(), y.torn());
        same("fault()", x.fault(), y.fault());
    }

    private void aChange() {
        int a = number(5);
        int b = number(5);
        switch (dice.nextInt(17)) {
            case 0: { int w = number(3), v = number(20); same("alter(" + a + "," + w + "," + v + ")", x.alter(a, w, v), y.alter(a, w, v)); break; }
            case 1: { int v = number(9); same("lumbago(" + v + ")", x.lumbago(v), y.lumbago(v)); break; }
            case 2: { int v = number(999); same("works(" + v + ")", x.works(v), y.works(v)); break; }
            case 3: same("change(" + a + "," + b + ")", x.change(a, b), y.change(a, b)); break;
            case 4: { int s = number(20), k = number(20), t = number(30); same("bear(" + s + "," + k + "," + t + ")", x.bear(s, k, t), y.bear(s, k, t)); break; }
            case 5: case 6: { int n = number(30); same("reigns(" + n + ")", x.reigns(n), y.reigns(n)); break; }
            case 7: case 8: {
                int n = 1 + dice.nextInt(20);
                // Half of what is seen comes true, so that something fits.
                int h = dice.nextBoolean() ? b : y.runs(n, 4);
                if (dice.nextInt(20) == 0) n = number(20);
                same("see(" + n + "," + h + ")", x.see(n, h), y.see(n, h));
                break;
            }
            case 9: { int n = number(6); same("forget(" + n + ")", x.forget(n), y.forget(n)); break; }
            case 10: { int k = number(1); same("keep(" + k + ")", x.keep(k), y.keep(k)); break; }
            case 11: { int k = number(1); same("back(" + k + ")", x.back(k), y.back(k)); break; }
            case 12: { int k = number(3), l = number(2), n = number(40); same("sheet(" + k + "," + l + "," + n + ")", x.sheet(k, l, n), y.sheet(k, l, n)); break; }
            case 13: layPair(); break;
            case 14: case 15: { int k = number(3), l = number(2), f = number(38), n = number(20); if (dice.nextBoolean()) n = dice.nextInt(3); same("read(" + k + "," + l + "," + f + "," + n + ")", x.read(k, l, f, n), y.read(k, l, f, n)); break; }
            default: { int c = number(127); same("feed(" + c + ")", x.feed(c), y.feed(c)); int n = number(3); same("end(" + n + ")", x.end(n), y.end(n)); break; }
        }
    }

    private void aQuestion() {
        int h = number(5);
        int n = number(60);
        int m = number(8);
        int v = number(10);
        int w = number(1);
        switch (dice.nextInt(20)) {
            case 0: { int u = number(4); same("runs(" + n + "," + u + ")", x.runs(n, u), y.runs(n, u)); break; }
            case 1: { int u = number(2); same("ahead(" + h + "," + n + "," + u + ")", x.ahead(h, n, u), y.ahead(h, n, u)); break; }
            case 2: same("soonest(" + h + ")", x.soonest(h), y.soonest(h)); break;
            case 3: same("again()", x.again(), y.again()); break;
            case 4: same("ruins()", x.ruins(), y.ruins()); break;
            case 5: same("need(" + h + ")", x.need(h), y.need(h)); break;
            case 6: same("order(" + n + "," + w + ")", x.order(n, w), y.order(n, w)); break;
            case 7: same("stool(" + n + "," + w + ")", x.stool(n, w), y.stool(n, w)); break;
            case 8: same("term(" + h + "," + n + "," + w + ")", x.term(h, n, w), y.term(h, n, w)); break;
            case 9: same("ache(" + n + "," + w + ")", x.ache(n, w), y.ache(n, w)); break;
            case 10: same("builder(" + n + "," + w + ")", x.builder(n, w), y.builder(n, w)); break;
            case 11: same("luck(" + v + "," + h + "," + m + "," + w + ")", x.luck(v, h, m, w), y.luck(v, h, m, w)); break;
            case 12: same("mean(" + v + "," + m + "," + w + ")", x.mean(v, m, w), y.mean(v, m, w)); break;
            case 13: same("kinds(" + h + ")", x.kinds(h), y.kinds(h)); break;
            case 14: same("springs(" + h + ")", x.springs(h), y.springs(h)); break;
            case 15: case 16: same("ask(" + h + "," + w + ")", x.ask(h, w), y.ask(h, w)); break;
            case 17: { int s = dice.nextInt(); same("drift(" + s + "," + n + "," + w + ")", x.drift(s, n, w), y.drift(s, n, w)); break; }
            case 18: { int n2 = number(6); same("rule(" + n2 + ")", x.rule(n2), y.rule(n2)); break; }
            default: { int n2 = number(6); same("count(" + n2 + ")", x.count(n2), y.count(n2)); break; }
        }
    }

    private void run() {
        if (dice.nextInt(10) != 0) tellText();
        // No change and no question is more than two calls.
        while (hasRoom(2 + LOOK)) {
            int way = dice.nextInt(100);
            if (way == 0 && hasRoom(TEXT + LOOK)) tellText();
            else if (way < 50) aChange();
            else aQuestion();
        }
        allTheState();
        if (!hasRoom(0)) throw new IllegalStateException("an object had " + calls + " calls");
    }

    public static void main(String[] args) {
        for (int i = 0; i < RUNS; i++) {
            new ModelTest(i).run();
        }
    }
}
