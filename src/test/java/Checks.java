/** Counts the answers that are not as due; a test ends with exit code 1 if there was one. */
final class Checks {
    private int wrong;
    private String sentence = "";

    /** The words of the document that the checks behind this one hold to; told with each wrong answer. */
    void of(String words) {
        sentence = "'" + words + "': ";
    }

    void due(String call, long got, long want) {
        if (got != want) {
            wrong++;
            System.out.println(sentence + call + " answered " + got + ", due is " + want);
        }
    }

    void dueAll(String call, long[] got, long... want) {
        due(call + ", how many", got.length, want.length);
        for (int i = 0; i < Math.min(got.length, want.length); i++) {
            due(call + ", number " + i, got[i], want[i]);
        }
    }

    void finish() {
        if (wrong != 0) {
            System.out.println(wrong + " answers are not as due");
            System.exit(1);
        }
    }

    static void feedAll(LeapKings x, String text) {
        for (int i = 0; i < text.length(); i++) {
            x.feed(text.charAt(i));
        }
    }

    static int tell(LeapKings x, String text) {
        feedAll(x, text);
        return x.text();
    }

    /** A new object to which a text was told that has to be without fault. */
    static LeapKings told(String text) {
        LeapKings x = new LeapKings();
        int lines = tell(x, text);
        if (lines < 0) {
            System.out.println("the text is not taken: " + text + " " + lines + " " + x.fault());
            System.exit(1);
        }
        return x;
    }

    static void reignAll(LeapKings x, int n) {
        for (int i = 0; i < n / 30; i++) {
            x.reigns(30);
        }
        x.reigns(n % 30);
    }

    /** THE LINE, from its first PLACE on. */
    static long[] lineOf(LeapKings x) {
        long[] line = new long[x.rule(0)];
        for (int i = 0; i < line.length; i++) {
            line[i] = x.line(i);
        }
        return line;
    }

    static void layAll(LeapKings x, int k, int... cells) {
        for (int i = 0; i < cells.length; i++) {
            x.lay(k, i, cells[i]);
        }
    }
}
