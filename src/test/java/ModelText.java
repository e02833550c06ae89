import java.util.ArrayList;
import java.util.List;
import java.util.regex.Matcher;
import java.util.regex.Pattern;

/** The text of the model: tokens by a pattern, faults by an exception. */
final class ModelText {
    private static final Pattern TOKEN = Pattern.compile(" *([a-z]+|[0-9]+|;|\\z|[\\x00-\\x7f])", Pattern.DOTALL);
    private static final List<String> KINDS = List.of("plain", "tall", "stooped", "stool");

    @SuppressWarnings("serial")
    private static final class Fault extends RuntimeException {
        final int which;
        final int where;

        Fault(int which, int where) {
            this.which = which;
            this.where = where;
        }
    }

    int fault;
    int place;
    int lines;
    Model.Realm realm = Model.EMPTY;

    private final String text;
    private final Matcher tokens;
    private String token;
    private int start;
    private final List<String> once = new ArrayList<>();
    private final List<Integer> first = new ArrayList<>();

    ModelText(String text) {
        this.text = text;
        tokens = TOKEN.matcher(text);
        try {
            take();
            while (!token.isEmpty()) {
                readLine();
                lines++;
                take();
            }
            for (int h : first) if (h >= realm.men().size()) throw new Fault(6, text.length());
            List<Integer> line = new ArrayList<>(first);
            for (int h : realm.line()) if (!first.contains(h)) line.add(h);
            realm = new Model.Realm(realm.men(), line, realm.lumbago(), realm.works(), 0, 0, 0);
        } catch (Fault f) {
            fault = f.which;
            place = f.where;
        }
    }

    private void take() {
        int from = token == null ? 0 : start + token.length();
        tokens.region(from, text.length());
        if (!tokens.lookingAt()) throw new IllegalStateException("the pattern takes any text");
        token = tokens.group(1);
        start = tokens.start(1);
        if (!token.matches("|;|[a-z]+|[0-9]{1,2}")) throw new Fault(1, start);
    }

    private int number(int low, int high) {
        if (!token.matches("[0-9]+")) throw new Fault(2, start);
        int v = Integer.parseInt(token);
        if (v < low || v > high) throw new Fault(3, start);
        return v;
    }

    private int takeNumber(int low, int high) {
        take();
        return number(low, high);
    }

    private void takeStop() {
        take();
        if (!token.equals(";")) throw new Fault(2, start);
    }

    private void onlyOnce() {
        if (once.contains(token)) throw new Fault(4, start);
        once.add(token);
    }

    private void readLine() {
        int kind = KINDS.indexOf(token);
        if (kind >= 0) {
            if (realm.men().size() == 6) throw new Fault(5, start);
            int spring = takeNumber(0, 20);
            int back = takeNumber(1, 20);
            int term = takeNumber(1, 30);
            realm = realm.withHeir(new Model.Man(kind, spring, back, term));
            takeStop();
        } else if (token.equals("line")) {
            onlyOnce();
            take();
            while (!token.equals(";")) {
                int h = number(0, 5);
                if (first.contains(h)) throw new Fault(4, start);
                first.add(h);
                take();
            }
        } else if (token.equals("lumbago")) {
            onlyOnce();
            realm = realm.withLumbago(takeNumber(0, 9));
            takeStop();
        } else if (token.equals("works")) {
            onlyOnce();
            realm = realm.withWorks(takeNumber(0, 99));
            takeStop();
        } else {
            throw new Fault(2, start);
        }
    }
}
