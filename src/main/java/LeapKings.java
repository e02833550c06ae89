/**
 * A leapfrog dynasty: who is first in the line bends, the second leaps over him and reigns.
 * Odd reigns build, even ones pull down. No call throws and, but for the constructor, no call
 * makes an object: every row that a call needs is made once and used again.
 */
public final class LeapKings {
    public static final int BAD = -1, STATE = -2, FULL = -3, NONE = -4;

    private static final int MOST_HEIRS = 6;
    private static final int MOST_SPRING = 20;
    private static final int MOST_TERM = 30;
    private static final int MOST_LUMBAGO = 9;
    private static final int MOST_WORKS = 999;
    private static final int MOST_REIGNS = 999;
    private static final int MOST_TOLD_WORKS = 99;
    private static final int MOST_BYTES = 160;
    private static final int MOST_SEEN = 6;
    private static final int MOST_CELLS = 40;
    private static final int MOST_AT_ONCE = 30;
    private static final int MOST_AHEAD = 60;
    private static final int MOST_ASKED = 20;
    private static final int MOST_SLIPS = 8;
    private static final int MOST_READ = 20;
    private static final int IMAGES = 2;
    private static final int SHEETS = 4;

    private static final int PLAIN = 0, TALL = 1, STOOPED = 2, STOOL = 3;

    // What an heir has, by the numbers that heir() and alter() give to it, with its bounds.
    private static final int KIND = 0, SPRING = 1, BACK = 2, TERM = 3, TRAITS = 4;
    private static final int[] LEAST = {0, 0, 1, 1};
    private static final int[] GREATEST = {3, 20, 20, 30};

    private static final int NULL = 1, INDEX = 2, CAST = 3, SIZE = 4;

    private final Tape tape;
    private final Dynasty now;
    private final Dynasty trial;
    private final Sightings seen;
    private final Image[] images;
    private final Sheet[] sheets;
    private final int[] kings;
    private final int[] yearsOf;
    private final int[] tally;
    private int tornBy;

    public LeapKings() {
        tape = new Tape();
        now = new Dynasty();
        trial = new Dynasty();
        seen = new Sightings();
        images = new Image[IMAGES];
        for (int k = 0; k < IMAGES; k++) {
            images[k] = new Image();
        }
        sheets = new Sheet[SHEETS];
        for (int k = 0; k < SHEETS; k++) {
            sheets[k] = new Sheet();
        }
        kings = new int[MOST_ASKED];
        yearsOf = new int[MOST_HEIRS];
        tally = new int[MOST_ASKED * MOST_HEIRS];
    }

    // ---- the text

    public int feed(int c) {
        if (!within(c, 0, 127)) {
            return BAD;
        }
        return tape.push(c) ? tape.length : FULL;
    }

    public int end(int n) {
        if (!within(n, 0, tape.length)) {
            return BAD;
        }
        int had = tape.length;
        tape.length = n;
        return had;
    }

    public int text() {
        tape.readAll();
        tape.length = 0;
        if (tape.fault != 0) {
            return -10 - tape.place;
        }
        now.copyFrom(tape.told);
        seen.size = 0;
        for (int k = 0; k < IMAGES; k++) {
            images[k].kept = false;
        }
        return tape.lines;
    }

    public int fault() {
        return tape.fault;
    }

    public int rule(int what) {
        switch (what) {
            case 0: return now.heirs;
            case 1: return now.reigned;
            case 2: return now.works;
            case 3: return now.lumbago;
            case 4: return now.years;
            case 5: return now.falls;
            default: return BAD;
        }
    }

    public int heir(int h, int what) {
        if (!isHeir(h) || !within(what, 0, 5)) {
            return BAD;
        }
        if (what < TRAITS) {
            return now.traits[what][h];
        }
        return what == 4 ? now.heightOf(h) : now.placeOf(h);
    }

    public int line(int i) {
        return isPlace(i) ? now.row[i] : BAD;
    }

    // ---- what is changed

    public int alter(int h, int what, int v) {
        if (!now.takes(h, what, v)) {
            return BAD;
        }
        int was = now.traits[what][h];
        now.traits[what][h] = v;
        return was;
    }

    public int lumbago(int v) {
        if (!within(v, 0, MOST_LUMBAGO)) {
            return BAD;
        }
        int was = now.lumbago;
        now.lumbago = v;
        return was;
    }

    public int works(int v) {
        if (!within(v, 0, MOST_WORKS)) {
            return BAD;
        }
        int was = now.works;
        now.works = v;
        return was;
    }

    public int change(int i, int k) {
        if (!isPlace(i) || !isPlace(k) || i == k) {
            return BAD;
        }
        int was = now.row[i];
        now.swap(i, k);
        return was;
    }

    public int bear(int spring, int back, int term) {
        if (!isTrait(SPRING, spring) || !isTrait(BACK, back) || !isTrait(TERM, term)) {
            return BAD;
        }
        return now.add(PLAIN, spring, back, term) ? now.heirs : FULL;
    }

    // ---- reigns

    public int reigns(int n) {
        int no = refusal(within(n, 0, MOST_AT_ONCE));
        if (no != 0) {
            return no;
        }
        if (now.reigned + n > MOST_REIGNS) {
            return FULL;
        }
        return now.worksBehind(n);
    }

    public int runs(int n, int what) {
        int no = refusal(isAhead(n) && within(what, 0, 4));
        if (no != 0) {
            return no;
        }
        trial.copyFrom(now);
        int firstFall = NONE;
        for (int r = 1; r <= n; r++) {
            trial.crown(false);
            if (!trial.clean && firstFall == NONE) {
                firstFall = r;
            }
        }
        switch (what) {
            case 0: return trial.works;
            case 1: return trial.years - now.years;
            case 2: return trial.falls - now.falls;
            case 3: return firstFall;
            default: return trial.king;
        }
    }

    public int ahead(int h, int n, int what) {
        int no = refusal(isHeir(h) && isAhead(n) && within(what, 0, 2));
        if (no != 0) {
            return no;
        }
        trial.copyFrom(now);
        int his = 0;
        for (int r = 1; r <= n; r++) {
            trial.crown(false);
            if (trial.king == h) {
                his += trial.span;
            }
        }
        switch (what) {
            case 0: return trial.traits[SPRING][h];
            case 1: return trial.placeOf(h);
            default: return his;
        }
    }

    public int soonest(int h) {
        int no = refusal(isHeir(h));
        return no != 0 ? no : firstReignOf(h);
    }

    public int again() {
        int no = refusal(true);
        if (no != 0) {
            return no;
        }
        trial.copyFrom(now);
        for (int r = 1; r <= MOST_AHEAD; r++) {
            trial.crown(false);
            if (trial.standsAs(now)) {
                return r;
            }
        }
        return NONE;
    }

    public int ruins() {
        int no = refusal(true);
        if (no != 0) {
            return no;
        }
        trial.copyFrom(now);
        for (int r = 0; r <= MOST_AHEAD; r++) {
            if (trial.works == 0) {
                return r;
            }
            trial.crown(false);
        }
        return NONE;
    }

    // ---- what is best

    public int need(int h) {
        int no = refusal(isHeir(h));
        if (no != 0) {
            return no;
        }
        int reign = firstReignOf(h);
        if (reign == NONE) {
            return NONE;
        }
        // His spring has no say before his first leap, so the reigns ahead of it are as they are.
        trial.copyFrom(now);
        trial.pass(reign - 1);
        int least = trial.heightOf(trial.row[0]) + trial.lumbago;
        return least <= MOST_SPRING ? least : NONE;
    }

    public int order(int n, int what) {
        int no = refusal(isAhead(n) && isWhichOrMuch(what));
        if (no != 0) {
            return no;
        }
        trial.copyFrom(now);
        int most = trial.worksBehind(n);
        int which = NONE;
        for (int i = 0; i < now.heirs; i++) {
            for (int k = i + 1; k < now.heirs; k++) {
                trial.copyFrom(now);
                trial.swap(i, k);
                int then = trial.worksBehind(n);
                if (then > most) {
                    most = then;
                    which = 10 * i + k;
                }
            }
        }
        return whichOrMuch(what, which, most);
    }

    public int stool(int n, int what) {
        int no = refusal(isAhead(n) && isWhichOrMuch(what));
        if (no != 0) {
            return no;
        }
        trial.copyFrom(now);
        int fewest = trial.fallsIn(n);
        int which = NONE;
        for (int h = 0; h < now.heirs; h++) {
            trial.copyFrom(now);
            trial.traits[KIND][h] = STOOL;
            int then = trial.fallsIn(n);
            if (then < fewest) {
                fewest = then;
                which = h;
            }
        }
        return whichOrMuch(what, which, fewest);
    }

    public int term(int h, int n, int what) {
        int no = refusal(isHeir(h) && isAhead(n) && isWhichOrMuch(what));
        if (no != 0) {
            return no;
        }
        int most = -1;
        int which = NONE;
        for (int v = 1; v <= MOST_TERM; v++) {
            trial.copyFrom(now);
            trial.traits[TERM][h] = v;
            int then = trial.worksBehind(n);
            if (then > most) {
                most = then;
                which = v;
            }
        }
        return whichOrMuch(what, which, most);
    }

    public int ache(int n, int what) {
        int no = refusal(isAhead(n) && isWhichOrMuch(what));
        if (no != 0) {
            return no;
        }
        int most = -1;
        int which = NONE;
        for (int v = 0; v <= MOST_LUMBAGO; v++) {
            trial.copyFrom(now);
            trial.lumbago = v;
            int then = trial.worksBehind(n);
            if (then > most) {
                most = then;
                which = v;
            }
        }
        return whichOrMuch(what, which, most);
    }

    public int builder(int n, int what) {
        int no = refusal(within(n, 1, MOST_AHEAD) && isWhichOrMuch(what));
        if (no != 0) {
            return no;
        }
        countBuilding(n);
        int which = 0;
        for (int h = 1; h < now.heirs; h++) {
            if (yearsOf[h] > yearsOf[which]) {
                which = h;
            }
        }
        return whichOrMuch(what, which, yearsOf[which]);
    }

    // ---- leaps that slip

    public long luck(int v, int h, int n, int what) {
        int no = refusal(isOdds(v, n, what) && isHeir(h));
        if (no != 0) {
            return no;
        }
        long sum = 0;
        for (int slips = 0; slips < 1 << n; slips++) {
            long weight = weightOf(slips, v, n);
            if (trial.king == h) {
                sum += weight;
            }
        }
        return partOfFraction(sum, tenTo(n), what);
    }

    public long mean(int v, int n, int what) {
        int no = refusal(isOdds(v, n, what));
        if (no != 0) {
            return no;
        }
        long sum = 0;
        for (int slips = 0; slips < 1 << n; slips++) {
            long weight = weightOf(slips, v, n);
            sum += weight * trial.works;
        }
        return partOfFraction(sum, tenTo(n), what);
    }

    // ---- from who reigned when

    public int see(int n, int h) {
        if (!within(n, 1, MOST_ASKED) || !isHeir(h)) {
            return BAD;
        }
        return seen.add(n, h) ? seen.size : FULL;
    }

    public int forget(int n) {
        if (!within(n, 0, seen.size)) {
            return BAD;
        }
        int had = seen.size;
        seen.size = n;
        return had;
    }

    public int kinds(int h) {
        int no = refusal(isHeir(h));
        return no != 0 ? no : fitting(h, KIND);
    }

    public int springs(int h) {
        int no = refusal(isHeir(h));
        return no != 0 ? no : fitting(h, SPRING);
    }

    public int ask(int h, int what) {
        int no = refusal(isHeir(h) && isWhichOrMuch(what));
        if (no != 0) {
            return no;
        }
        int fewest = tallyKings(h);
        int which = NONE;
        for (int r = 1; r <= MOST_ASKED; r++) {
            int worst = mostTallied(r);
            if (worst < fewest) {
                fewest = worst;
                which = r;
            }
        }
        return whichOrMuch(what, which, fewest);
    }

    // ---- by a seed

    public int drift(int seed, int n, int what) {
        int no = refusal(within(n, 1, MOST_AHEAD) && isWhichOrMuch(what));
        if (no != 0) {
            return no;
        }
        trial.copyFrom(now);
        int s = seed;
        for (int r = 0; r < n; r++) {
            s = s * 1103515245 + 12345;
            trial.lumbago = (s >>> 16 & 0x7fff) % 10;
            trial.crown(false);
        }
        return what == 0 ? trial.works : trial.falls - now.falls;
    }

    // ---- images, sheets

    public int keep(int k) {
        if (!within(k, 0, IMAGES - 1)) {
            return BAD;
        }
        Image image = images[k];
        int was = image.kept ? 1 : 0;
        image.kept = true;
        image.dynasty.copyFrom(now);
        image.seen.copyFrom(seen);
        return was;
    }

    public int back(int k) {
        if (!within(k, 0, IMAGES - 1)) {
            return BAD;
        }
        Image image = images[k];
        if (!image.kept) {
            return STATE;
        }
        now.copyFrom(image.dynasty);
        seen.copyFrom(image.seen);
        return now.works;
    }

    public int sheet(int k, int lane, int n) {
        if (!isSheet(k) || !isLane(lane) || n > MOST_CELLS) {
            return BAD;
        }
        if (n < 0) {
            return -10 - SIZE;
        }
        sheets[k].renew(lane, n);
        return 1;
    }

    public int lay(int k, int i, int v) {
        if (!isSheet(k)) {
            return BAD;
        }
        Sheet row = sheets[k];
        int refused = row.faultAt(row.lane, i);
        if (refused != 0) {
            return -10 - refused;
        }
        row.cells[i] = row.narrowed(v);
        return 1;
    }

    public int read(int k, int lane, int f, int n) {
        if (!isSheet(k) || !isLane(lane) || !within(n, 0, MOST_READ)) {
            return BAD;
        }
        Sheet row = sheets[k];
        // All is tried on the trial first, so that a refused training leaves nothing to undo.
        trial.copyFrom(now);
        int came = 0;
        int refused = 0;
        for (int i = 0; i < n && refused == 0; i++) {
            int cell = f + 2 * i;
            refused = row.faultOfPair(lane, cell);
            if (refused == 0) {
                if (!trains(row.cells[cell], row.cells[cell + 1])) {
                    return -20 - i;
                }
                came++;
            }
        }
        now.copyFrom(trial);
        tornBy = refused;
        return came;
    }

    public int torn() {
        return tornBy;
    }

    public int count(int what) {
        switch (what) {
            case 0: return seen.size;
            case 1: return (images[0].kept ? 1 : 0) + (images[1].kept ? 1 : 0);
            case 2: return tape.length;
            case 3: return sheets[0].size < 0 ? NONE : sheets[0].size;
            case 4: return now.sumOf(SPRING);
            case 5: return now.sumOf(TERM);
            default: return BAD;
        }
    }

    // ---- what is told by the caller

    private static boolean within(int v, int low, int high) {
        return v >= low && v <= high;
    }

    private static boolean isTrait(int what, int v) {
        return within(v, LEAST[what], GREATEST[what]);
    }

    private static boolean isAhead(int n) {
        return within(n, 0, MOST_AHEAD);
    }

    private static boolean isWhichOrMuch(int what) {
        return within(what, 0, 1);
    }

    private static boolean isOdds(int v, int n, int what) {
        return within(v, 0, 10) && within(n, 0, MOST_SLIPS) && isWhichOrMuch(what);
    }

    private static boolean isSheet(int k) {
        return within(k, 0, SHEETS - 1);
    }

    private static boolean isLane(int lane) {
        return within(lane, 0, 2);
    }

    private boolean isHeir(int h) {
        return within(h, 0, now.heirs - 1);
    }

    private boolean isPlace(int i) {
        return within(i, 0, now.heirs - 1);
    }

    /** BAD goes ahead of STATE; 0 if the call may go on. */
    private int refusal(boolean asTold) {
        if (!asTold) {
            return BAD;
        }
        return now.heirs < 2 ? STATE : 0;
    }

    private static int whichOrMuch(int what, int which, int much) {
        if (which == NONE) {
            return NONE;
        }
        return what == 0 ? which : much;
    }

    // ---- what is tried out

    private int firstReignOf(int h) {
        trial.copyFrom(now);
        for (int r = 1; r <= MOST_AHEAD; r++) {
            trial.crown(false);
            if (trial.king == h) {
                return r;
            }
        }
        return NONE;
    }

    private void countBuilding(int n) {
        trial.copyFrom(now);
        for (int h = 0; h < MOST_HEIRS; h++) {
            yearsOf[h] = 0;
        }
        for (int r = 0; r < n; r++) {
            trial.crown(false);
            if (trial.builds) {
                yearsOf[trial.king] += trial.span;
            }
        }
    }

    /** Runs the trial with a slip in each reign whose bit is set: its weight out of ten to the n. */
    private long weightOf(int slips, int v, int n) {
        trial.copyFrom(now);
        long weight = 1;
        for (int r = 0; r < n; r++) {
            boolean slip = (slips >> r & 1) == 1;
            // Who falls anyway goes on alike by both ways, which are ten out of ten together.
            weight *= slip ? v : 10 - v;
            if (weight == 0) {
                return 0;
            }
            trial.crown(slip);
        }
        return weight;
    }

    private static long tenTo(int n) {
        long power = 1;
        for (int i = 0; i < n; i++) {
            power *= 10;
        }
        return power;
    }

    private static long partOfFraction(long above, long below, int what) {
        long a = below;
        long b = above;
        // A hundred rounds of Euclid are more than any two longs need.
        for (int i = 0; i < 100 && b != 0; i++) {
            long rest = a % b;
            a = b;
            b = rest;
        }
        if (a == 0) {
            return 0;
        }
        return what == 0 ? above / a : below / a;
    }

    private int fitting(int h, int what) {
        int bits = 0;
        for (int v = 0; v <= GREATEST[what]; v++) {
            if (isAsSeen(h, what, v)) {
                bits |= 1 << v;
            }
        }
        return bits;
    }

    /** Runs the trial with one trait changed; who reigned stays in kings. */
    private boolean isAsSeen(int h, int what, int v) {
        trial.copyFrom(now);
        trial.traits[what][h] = v;
        for (int r = 0; r < MOST_ASKED; r++) {
            trial.crown(false);
            kings[r] = trial.king;
        }
        return seen.fits(kings);
    }

    /** Counts for each reign by how many springs each heir reigns in it: how many springs there are. */
    private int tallyKings(int h) {
        for (int i = 0; i < tally.length; i++) {
            tally[i] = 0;
        }
        int fits = 0;
        for (int v = 0; v <= MOST_SPRING; v++) {
            if (isAsSeen(h, SPRING, v)) {
                fits++;
                for (int r = 0; r < MOST_ASKED; r++) {
                    tally[r * MOST_HEIRS + kings[r]]++;
                }
            }
        }
        return fits;
    }

    private int mostTallied(int reign) {
        int most = 0;
        for (int h = 0; h < MOST_HEIRS; h++) {
            most = Math.max(most, tally[(reign - 1) * MOST_HEIRS + h]);
        }
        return most;
    }

    private boolean trains(int h, int spring) {
        if (!trial.takes(h, SPRING, spring) || trial.heirs < 2 || trial.reigned >= MOST_REIGNS) {
            return false;
        }
        trial.traits[SPRING][h] = spring;
        trial.crown(false);
        return true;
    }

    /** Heirs, their line and what their reigns left. */
    private static final class Dynasty {
        final int[][] traits = new int[TRAITS][MOST_HEIRS];
        final int[] row = new int[MOST_HEIRS];
        int heirs;
        int lumbago;
        int works;
        int reigned;
        int years;
        int falls;

        // Of the latest reign since this was copied, for those who watch.
        int king = NONE;
        int span;
        boolean clean;
        boolean builds;

        void copyFrom(Dynasty other) {
            for (int what = 0; what < TRAITS; what++) {
                System.arraycopy(other.traits[what], 0, traits[what], 0, MOST_HEIRS);
            }
            System.arraycopy(other.row, 0, row, 0, MOST_HEIRS);
            heirs = other.heirs;
            lumbago = other.lumbago;
            works = other.works;
            reigned = other.reigned;
            years = other.years;
            falls = other.falls;
            king = NONE;
        }

        void empty() {
            heirs = 0;
            lumbago = 0;
            works = 0;
            reigned = 0;
            years = 0;
            falls = 0;
        }

        boolean add(int kind, int spring, int back, int term) {
            if (heirs >= MOST_HEIRS) {
                return false;
            }
            traits[KIND][heirs] = kind;
            traits[SPRING][heirs] = spring;
            traits[BACK][heirs] = back;
            traits[TERM][heirs] = term;
            row[heirs] = heirs;
            heirs++;
            return true;
        }

        boolean takes(int h, int what, int v) {
            return within(h, 0, heirs - 1) && within(what, 0, TRAITS - 1) && isTrait(what, v);
        }

        int sumOf(int what) {
            int sum = 0;
            for (int h = 0; h < heirs; h++) {
                sum += traits[what][h];
            }
            return sum;
        }

        int heightOf(int h) {
            int plain = traits[BACK][h];
            int tall = plain + (plain + 1) / 2;
            int stooped = tall / 2;
            switch (traits[KIND][h]) {
                case TALL: return tall;
                case STOOPED: return stooped;
                case STOOL: return Math.max(0, stooped - 1);
                default: return plain;
            }
        }

        int placeOf(int h) {
            for (int i = 0; i < heirs; i++) {
                if (row[i] == h) {
                    return i;
                }
            }
            return BAD;
        }

        boolean standsAs(Dynasty other) {
            for (int i = 0; i < heirs; i++) {
                if (row[i] != other.row[i]) {
                    return false;
                }
            }
            return true;
        }

        void swap(int i, int k) {
            int kept = row[i];
            row[i] = row[k];
            row[k] = kept;
        }

        /** Whether the second of the line comes over the first, if he does not slip. */
        boolean clears() {
            return traits[SPRING][row[1]] - lumbago >= heightOf(row[0]);
        }

        /** One reign; only for two heirs or more. */
        void crown(boolean slips) {
            king = row[1];
            clean = clears() && !slips;
            span = clean ? traits[TERM][king] : (traits[TERM][king] + 1) / 2;
            reigned++;
            years += span;
            builds = reigned % 2 == 1;
            works = builds ? Math.min(MOST_WORKS, works + span) : Math.max(0, works - span);
            if (clean) {
                sendBehind(0);
                sendBehind(0);
            } else {
                falls++;
                sendBehind(1);
                traits[SPRING][king] = Math.max(0, traits[SPRING][king] - 1);
            }
        }

        void sendBehind(int place) {
            int who = row[place];
            for (int i = place + 1; i < heirs; i++) {
                row[i - 1] = row[i];
            }
            row[heirs - 1] = who;
        }

        void pass(int n) {
            for (int r = 0; r < n; r++) {
                crown(false);
            }
        }

        int worksBehind(int n) {
            pass(n);
            return works;
        }

        int fallsIn(int n) {
            int before = falls;
            pass(n);
            return falls - before;
        }
    }

    /** Who was seen to reign in which of the reigns to come. */
    private static final class Sightings {
        final int[] reign = new int[MOST_SEEN];
        final int[] who = new int[MOST_SEEN];
        int size;

        void copyFrom(Sightings other) {
            System.arraycopy(other.reign, 0, reign, 0, MOST_SEEN);
            System.arraycopy(other.who, 0, who, 0, MOST_SEEN);
            size = other.size;
        }

        boolean add(int n, int h) {
            if (size >= MOST_SEEN) {
                return false;
            }
            reign[size] = n;
            who[size] = h;
            size++;
            return true;
        }

        boolean fits(int[] kings) {
            for (int i = 0; i < size; i++) {
                if (kings[reign[i] - 1] != who[i]) {
                    return false;
                }
            }
            return true;
        }
    }

    private static final class Image {
        final Dynasty dynasty = new Dynasty();
        final Sightings seen = new Sightings();
        boolean kept;
    }

    /** A row of cells of a lane; a size below 0 is nothing. */
    private static final class Sheet {
        final int[] cells = new int[MOST_CELLS];
        int lane;
        int size = -1;

        void renew(int newLane, int n) {
            lane = newLane;
            size = n;
            for (int i = 0; i < MOST_CELLS; i++) {
                cells[i] = 0;
            }
        }

        int narrowed(int v) {
            switch (lane) {
                case 0: return (byte) v;
                case 1: return (short) v;
                default: return v;
            }
        }

        /** What the machine would find, were cell i taken of a row of that lane; 0: nothing. */
        int faultAt(int asLane, int i) {
            if (size < 0) {
                return NULL;
            }
            if (asLane != lane) {
                return CAST;
            }
            return within(i, 0, size - 1) ? 0 : INDEX;
        }

        int faultOfPair(int asLane, int i) {
            int first = faultAt(asLane, i);
            return first != 0 ? first : faultAt(asLane, i + 1);
        }
    }

    /** The tape and what reads it: into a dynasty of its own, so that a faulty text leaves the ruling one alone. */
    private static final class Tape {
        private static final int END = 0, NAME = 1, NUMBER = 2, STOP = 3;

        final byte[] bytes = new byte[MOST_BYTES];
        int length;
        final Dynasty told = new Dynasty();
        int lines;
        int fault;
        int place;

        // The token at hand: bytes start to next.
        int token;
        int start;
        int next;
        int value;

        // Of the heir who is told at hand, by the numbers of his traits.
        final int[] numbers = new int[TRAITS];

        // Who is told to be first; apart from the row, which grows as heirs are told behind it.
        final int[] front = new int[MOST_HEIRS];
        final boolean[] isFirst = new boolean[MOST_HEIRS];
        int firsts;
        boolean lineTold;
        boolean lumbagoTold;
        boolean worksTold;

        boolean push(int c) {
            if (length >= MOST_BYTES) {
                return false;
            }
            bytes[length] = (byte) c;
            length++;
            return true;
        }

        void readAll() {
            startAnew();
            // Each line takes a byte at least.
            for (int i = 0; i <= length; i++) {
                if (!take()) {
                    return;
                }
                if (token == END) {
                    break;
                }
                if (!readLine()) {
                    return;
                }
                lines++;
            }
            formRow();
        }

        void startAnew() {
            told.empty();
            lines = 0;
            fault = 0;
            place = 0;
            next = 0;
            firsts = 0;
            lineTold = false;
            lumbagoTold = false;
            worksTold = false;
            for (int h = 0; h < MOST_HEIRS; h++) {
                isFirst[h] = false;
            }
        }

        /** Always false, so that a reader can leave with it. */
        boolean fail(int which, int where) {
            fault = which;
            place = where;
            return false;
        }

        static boolean isLetter(int c) {
            return c >= 'a' && c <= 'z';
        }

        static boolean isFigure(int c) {
            return c >= '0' && c <= '9';
        }

        boolean take() {
            while (next < length && bytes[next] == ' ') {
                next++;
            }
            start = next;
            if (next >= length) {
                token = END;
                return true;
            }
            int c = bytes[next];
            if (c == ';') {
                token = STOP;
                next++;
                return true;
            }
            if (isLetter(c)) {
                token = NAME;
                while (next < length && isLetter(bytes[next])) {
                    next++;
                }
                return true;
            }
            return isFigure(c) ? takeNumber() : fail(1, start);
        }

        boolean takeNumber() {
            token = NUMBER;
            value = 0;
            while (next < length && isFigure(bytes[next])) {
                // A third figure is a fault already.
                if (next - start >= 2) {
                    return fail(1, start);
                }
                value = value * 10 + (bytes[next] - '0');
                next++;
            }
            return true;
        }

        boolean isNamed(String name) {
            if (next - start != name.length()) {
                return false;
            }
            for (int i = 0; i < name.length(); i++) {
                if (bytes[start + i] != name.charAt(i)) {
                    return false;
                }
            }
            return true;
        }

        boolean readLine() {
            if (token != NAME) {
                return fail(2, start);
            }
            int kind = kindNamed();
            if (kind != NONE) {
                return readHeir(kind) && takeStop();
            }
            if (isNamed("line")) {
                return readFirsts();
            }
            if (isNamed("lumbago")) {
                return readLumbago() && takeStop();
            }
            return isNamed("works") ? readWorks() && takeStop() : fail(2, start);
        }

        int kindNamed() {
            if (isNamed("plain")) {
                return PLAIN;
            }
            if (isNamed("tall")) {
                return TALL;
            }
            if (isNamed("stooped")) {
                return STOOPED;
            }
            return isNamed("stool") ? STOOL : NONE;
        }

        boolean readHeir(int kind) {
            if (told.heirs >= MOST_HEIRS) {
                return fail(5, start);
            }
            for (int what = SPRING; what <= TERM; what++) {
                if (!take() || !isNumberWithin(LEAST[what], GREATEST[what])) {
                    return false;
                }
                numbers[what] = value;
            }
            return told.add(kind, numbers[SPRING], numbers[BACK], numbers[TERM]);
        }

        boolean readLumbago() {
            if (lumbagoTold) {
                return fail(4, start);
            }
            lumbagoTold = true;
            if (!take() || !isNumberWithin(0, MOST_LUMBAGO)) {
                return false;
            }
            told.lumbago = value;
            return true;
        }

        boolean readWorks() {
            if (worksTold) {
                return fail(4, start);
            }
            worksTold = true;
            if (!take() || !isNumberWithin(0, MOST_TOLD_WORKS)) {
                return false;
            }
            told.works = value;
            return true;
        }

        boolean readFirsts() {
            if (lineTold) {
                return fail(4, start);
            }
            lineTold = true;
            // Six heirs unlike and a stop: the seventh number, if there is one, is in line already.
            for (int i = 0; i <= MOST_HEIRS; i++) {
                if (!take()) {
                    return false;
                }
                if (token == STOP) {
                    return true;
                }
                if (!isNumberWithin(0, MOST_HEIRS - 1)) {
                    return false;
                }
                if (isFirst[value] || firsts >= MOST_HEIRS) {
                    return fail(4, start);
                }
                isFirst[value] = true;
                front[firsts] = value;
                firsts++;
            }
            return fail(4, start);
        }

        boolean isNumberWithin(int low, int high) {
            if (token != NUMBER) {
                return fail(2, start);
            }
            return within(value, low, high) || fail(3, start);
        }

        boolean takeStop() {
            return take() && (token == STOP || fail(2, start));
        }

        void formRow() {
            for (int i = 0; i < firsts; i++) {
                if (front[i] >= told.heirs) {
                    fail(6, length);
                    return;
                }
            }
            for (int i = 0; i < firsts; i++) {
                told.row[i] = front[i];
            }
            int at = firsts;
            for (int h = 0; h < told.heirs; h++) {
                if (!isFirst[h] && at < MOST_HEIRS) {
                    told.row[at] = h;
                    at++;
                }
            }
        }
    }
}
