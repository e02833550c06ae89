/** Counts the answers that are not as due; a test ends with exit code 1 if there was one. */
final class Checks {
    private int wrong;

    void due(String call, long got, long want) {
        if (got != want) {
            wrong++;
            System.out.println(call + " answered " + got + ", due is " + want);
        }
    }

    void finish() {
        if (wrong != 0) {
            System.out.println(wrong + " answers are not as due");
            System.exit(1);
        }
    }

    static void feedAll(LeapKings x, String text) {
        for (int i = 0; i < text.length(); i++) {
            x.feed(text.charAt(i));
        }
    }

    static int tell(LeapKings x, String text) {
        feedAll(x, text);
        return x.text();
    }

    /** A new object to which a text was told that has to be without fault. */
    static LeapKings told(String text) {
        LeapKings x = new LeapKings();
        int lines = tell(x, text);
        if (lines < 0) {
            System.out.println("the text is not taken: " + text + " " + lines + " " + x.fault());
            System.exit(1);
        }
        return x;
    }
}
