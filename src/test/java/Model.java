import java.math.BigInteger;
import java.util.ArrayList;
import java.util.Collections;
import java.util.HashMap;
import java.util.HashSet;
import java.util.LinkedHashMap;
import java.util.List;
import java.util.Map;
import java.util.Set;

/**
 * The document once more, as plainly as the Java library allows: whatever is asked is played
 * through on realms that never change. The class is held against it call by call.
 */
final class Model {
    record Man(int kind, int spring, int back, int term) {
        Man with(int what, int v) {
            return new Man(what == 0 ? v : kind, what == 1 ? v : spring, what == 2 ? v : back, what == 3 ? v : term);
        }

        int get(int what) {
            return new int[] {kind, spring, back, term, height()}[what];
        }

        int height() {
            int tall = back + (int) Math.ceil(back / 2.0);
            int stooped = (int) Math.floor(tall / 2.0);
            return new int[] {back, tall, stooped, Math.max(stooped - 1, 0)}[kind];
        }
    }

    record Realm(List<Man> men, List<Integer> line, int lumbago, int works, int reigns, int years, int falls) {
        Realm withMan(int h, int what, int v) {
            List<Man> m = new ArrayList<>(men);
            m.set(h, m.get(h).with(what, v));
            return new Realm(m, line, lumbago, works, reigns, years, falls);
        }

        Realm withLumbago(int v) {
            return new Realm(men, line, v, works, reigns, years, falls);
        }

        Realm withWorks(int v) {
            return new Realm(men, line, lumbago, v, reigns, years, falls);
        }

        Realm withSwap(int i, int k) {
            List<Integer> l = new ArrayList<>(line);
            Collections.swap(l, i, k);
            return new Realm(men, l, lumbago, works, reigns, years, falls);
        }

        Realm withHeir(Man m) {
            List<Man> ms = new ArrayList<>(men);
            ms.add(m);
            List<Integer> l = new ArrayList<>(line);
            l.add(men.size());
            return new Realm(ms, l, lumbago, works, reigns, years, falls);
        }

        boolean wouldBeClean() {
            return men.get(line.get(1)).spring() - lumbago >= men.get(line.get(0)).height();
        }

        Turn turn(boolean slip) {
            int bends = line.get(0);
            int leaps = line.get(1);
            boolean clean = wouldBeClean() && !slip;
            Man m = men.get(leaps);
            int span = clean ? m.term() : m.term() - m.term() / 2;
            boolean odd = (reigns + 1) % 2 != 0;
            int w = odd ? Math.min(999, works + span) : Math.max(0, works - span);
            List<Integer> l = new ArrayList<>(line.subList(2, line.size()));
            if (clean) {
                l.add(bends);
            } else {
                l.add(0, bends);
            }
            l.add(leaps);
            Realm next = new Realm(men, l, lumbago, w, reigns + 1, years + span, falls + (clean ? 0 : 1));
            if (!clean) {
                next = next.withMan(leaps, 1, Math.max(0, m.spring() - 1));
            }
            return new Turn(next, leaps, clean, span, odd);
        }

        List<Turn> turns(int n) {
            List<Turn> all = new ArrayList<>();
            Realm r = this;
            for (int i = 0; i < n; i++) {
                Turn t = r.turn(false);
                all.add(t);
                r = t.then();
            }
            return all;
        }

        Realm after(int n) {
            return n == 0 ? this : turns(n).get(n - 1).then();
        }
    }

    record Turn(Realm then, int king, boolean clean, int span, boolean odd) {
    }

    record Sight(int n, int h) {
    }

    record Picture(Realm realm, List<Sight> seen) {
    }

    static final int BAD = -1, STATE = -2, FULL = -3, NONE = -4;
    static final Realm EMPTY = new Realm(List.of(), List.of(), 0, 0, 0, 0, 0);
    static final int[] LOW = {0, 0, 1, 1}, HIGH = {3, 20, 20, 30};

    private Realm now = EMPTY;
    private List<Sight> seen = new ArrayList<>();
    private final Map<Integer, Picture> images = new HashMap<>();
    private final Object[] sheets = new Object[4];
    private final StringBuilder tape = new StringBuilder();
    private int fault;
    private int torn;

    private static boolean in(int v, int low, int high) {
        return low <= v && v <= high;
    }

    private boolean man(int h) {
        return in(h, 0, now.men().size() - 1);
    }

    private boolean few() {
        return now.men().size() < 2;
    }

    int feed(int c) {
        if (!in(c, 0, 127)) return BAD;
        if (tape.length() == 160) return FULL;
        tape.append((char) c);
        return tape.length();
    }

    int end(int n) {
        if (!in(n, 0, tape.length())) return BAD;
        int had = tape.length();
        tape.setLength(n);
        return had;
    }

    int text() {
        ModelText t = new ModelText(tape.toString());
        tape.setLength(0);
        fault = t.fault;
        if (fault != 0) return -10 - t.place;
        now = t.realm;
        seen = new ArrayList<>();
        images.clear();
        return t.lines;
    }

    int fault() {
        return fault;
    }

    int rule(int what) {
        if (!in(what, 0, 5)) return BAD;
        return new int[] {now.men().size(), now.reigns(), now.works(), now.lumbago(), now.years(), now.falls()}[what];
    }

    int heir(int h, int what) {
        if (!man(h) || !in(what, 0, 5)) return BAD;
        return what == 5 ? now.line().indexOf(h) : now.men().get(h).get(what);
    }

    int line(int i) {
        return man(i) ? now.line().get(i) : BAD;
    }

    int alter(int h, int what, int v) {
        if (!man(h) || !in(what, 0, 3) || !in(v, LOW[what], HIGH[what])) return BAD;
        int was = heir(h, what);
        now = now.withMan(h, what, v);
        return was;
    }

    int lumbago(int v) {
        if (!in(v, 0, 9)) return BAD;
        int was = now.lumbago();
        now = now.withLumbago(v);
        return was;
    }

    int works(int v) {
        if (!in(v, 0, 999)) return BAD;
        int was = now.works();
        now = now.withWorks(v);
        return was;
    }

    int change(int i, int k) {
        if (!man(i) || !man(k) || i == k) return BAD;
        int was = now.line().get(i);
        now = now.withSwap(i, k);
        return was;
    }

    int bear(int spring, int back, int term) {
        if (!in(spring, 0, 20) || !in(back, 1, 20) || !in(term, 1, 30)) return BAD;
        if (now.men().size() == 6) return FULL;
        now = now.withHeir(new Man(0, spring, back, term));
        return now.men().size();
    }

    int reigns(int n) {
        if (!in(n, 0, 30)) return BAD;
        if (few()) return STATE;
        if (now.reigns() + n >= 1000) return FULL;
        now = now.after(n);
        return now.works();
    }

    int runs(int n, int what) {
        if (!in(n, 0, 60) || !in(what, 0, 4)) return BAD;
        if (few()) return STATE;
        List<Turn> ts = now.turns(n);
        switch (what) {
            case 0: return now.after(n).works();
            case 1: return ts.stream().mapToInt(Turn::span).sum();
            case 2: return (int) ts.stream().filter(t -> !t.clean()).count();
            case 3:
                for (int i = 0; i < n; i++) if (!ts.get(i).clean()) return i + 1;
                return NONE;
            default: return n == 0 ? NONE : ts.get(n - 1).king();
        }
    }

    int ahead(int h, int n, int what) {
        if (!man(h) || !in(n, 0, 60) || !in(what, 0, 2)) return BAD;
        if (few()) return STATE;
        if (what == 0) return now.after(n).men().get(h).spring();
        if (what == 1) return now.after(n).line().indexOf(h);
        return now.turns(n).stream().filter(t -> t.king() == h).mapToInt(Turn::span).sum();
    }

    int soonest(int h) {
        if (!man(h)) return BAD;
        if (few()) return STATE;
        List<Turn> ts = now.turns(60);
        for (int i = 1; i <= 60; i++) if (ts.get(i - 1).king() == h) return i;
        return NONE;
    }

    int again() {
        if (few()) return STATE;
        for (int i = 1; i <= 60; i++) if (now.after(i).line().equals(now.line())) return i;
        return NONE;
    }

    int ruins() {
        if (few()) return STATE;
        for (int i = 0; i <= 60; i++) if (now.after(i).works() == 0) return i;
        return NONE;
    }

    int need(int h) {
        if (!man(h)) return BAD;
        if (few()) return STATE;
        for (int s = 0; s <= 20; s++) {
            for (Turn t : now.withMan(h, 1, s).turns(60)) {
                if (t.king() == h) {
                    if (t.clean()) return s;
                    break;
                }
            }
        }
        return NONE;
    }

    /** The key of the greatest value, the first of several; told apart from its value by what. */
    private static int best(Map<Integer, Integer> values, int what) {
        int most = values.isEmpty() ? NONE : Collections.max(values.values());
        for (Map.Entry<Integer, Integer> e : values.entrySet()) {
            if (e.getValue() == most) return what == 0 ? e.getKey() : most;
        }
        return NONE;
    }

    int order(int n, int what) {
        if (!in(n, 0, 60) || !in(what, 0, 1)) return BAD;
        if (few()) return STATE;
        Map<Integer, Integer> found = new LinkedHashMap<>();
        for (int i = 0; i < now.men().size(); i++) {
            for (int k = i + 1; k < now.men().size(); k++) {
                int w = now.withSwap(i, k).after(n).works();
                if (w > now.after(n).works()) found.put(10 * i + k, w);
            }
        }
        return best(found, what);
    }

    int stool(int n, int what) {
        if (!in(n, 0, 60) || !in(what, 0, 1)) return BAD;
        if (few()) return STATE;
        Map<Integer, Integer> found = new LinkedHashMap<>();
        for (int h = 0; h < now.men().size(); h++) {
            int saved = now.after(n).falls() - now.withMan(h, 0, 3).after(n).falls();
            if (saved > 0) found.put(h, saved);
        }
        if (found.isEmpty()) return NONE;
        return what == 0 ? best(found, 0) : runs(n, 2) - best(found, 1);
    }

    int term(int h, int n, int what) {
        if (!man(h) || !in(n, 0, 60) || !in(what, 0, 1)) return BAD;
        if (few()) return STATE;
        Map<Integer, Integer> found = new LinkedHashMap<>();
        for (int v = 1; v <= 30; v++) found.put(v, now.withMan(h, 3, v).after(n).works());
        return best(found, what);
    }

    int ache(int n, int what) {
        if (!in(n, 0, 60) || !in(what, 0, 1)) return BAD;
        if (few()) return STATE;
        Map<Integer, Integer> found = new LinkedHashMap<>();
        for (int v = 0; v <= 9; v++) found.put(v, now.withLumbago(v).after(n).works());
        return best(found, what);
    }

    int builder(int n, int what) {
        if (!in(n, 1, 60) || !in(what, 0, 1)) return BAD;
        if (few()) return STATE;
        Map<Integer, Integer> found = new LinkedHashMap<>();
        for (int h = 0; h < now.men().size(); h++) found.put(h, 0);
        for (Turn t : now.turns(n)) if (t.odd()) found.merge(t.king(), t.span(), Integer::sum);
        return best(found, what);
    }

    /** Realms behind n reigns with who reigned last, each with its weight out of ten to the n. */
    private static Map<Turn, BigInteger> chances(Realm from, int v, int n) {
        Map<Turn, BigInteger> all = new HashMap<>();
        all.put(new Turn(from, NONE, true, 0, false), BigInteger.ONE);
        for (int i = 0; i < n; i++) {
            Map<Turn, BigInteger> next = new HashMap<>();
            all.forEach((t, weight) -> {
                int slips = t.then().wouldBeClean() ? v : 10;
                next.merge(t.then().turn(true), weight.multiply(BigInteger.valueOf(slips)), BigInteger::add);
                next.merge(t.then().turn(false), weight.multiply(BigInteger.valueOf(10 - slips)), BigInteger::add);
            });
            all = next;
        }
        return all;
    }

    private static long fraction(BigInteger above, int n, int what) {
        BigInteger below = BigInteger.TEN.pow(n);
        BigInteger g = above.gcd(below);
        return (what == 0 ? above : below).divide(g).longValueExact();
    }

    long luck(int v, int h, int n, int what) {
        if (!in(v, 0, 10) || !man(h) || !in(n, 0, 8) || !in(what, 0, 1)) return BAD;
        if (few()) return STATE;
        BigInteger sum = BigInteger.ZERO;
        for (Map.Entry<Turn, BigInteger> e : chances(now, v, n).entrySet()) {
            if (e.getKey().king() == h) sum = sum.add(e.getValue());
        }
        return fraction(sum, n, what);
    }

    long mean(int v, int n, int what) {
        if (!in(v, 0, 10) || !in(n, 0, 8) || !in(what, 0, 1)) return BAD;
        if (few()) return STATE;
        BigInteger sum = BigInteger.ZERO;
        for (Map.Entry<Turn, BigInteger> e : chances(now, v, n).entrySet()) {
            sum = sum.add(e.getValue().multiply(BigInteger.valueOf(e.getKey().then().works())));
        }
        return fraction(sum, n, what);
    }

    int see(int n, int h) {
        if (!in(n, 1, 20) || !man(h)) return BAD;
        if (seen.size() == 6) return FULL;
        seen.add(new Sight(n, h));
        return seen.size();
    }

    int forget(int n) {
        if (!in(n, 0, seen.size())) return BAD;
        int had = seen.size();
        seen = new ArrayList<>(seen.subList(0, n));
        return had;
    }

    private Set<Integer> fitting(int h, int what) {
        Set<Integer> fit = new HashSet<>();
        for (int v = 0; v <= HIGH[what]; v++) {
            List<Turn> ts = now.withMan(h, what, v).turns(20);
            if (seen.stream().allMatch(s -> ts.get(s.n() - 1).king() == s.h())) fit.add(v);
        }
        return fit;
    }

    int kinds(int h) {
        if (!man(h)) return BAD;
        if (few()) return STATE;
        return fitting(h, 0).stream().mapToInt(v -> 1 << v).sum();
    }

    int springs(int h) {
        if (!man(h)) return BAD;
        if (few()) return STATE;
        return fitting(h, 1).stream().mapToInt(v -> 1 << v).sum();
    }

    int ask(int h, int what) {
        if (!man(h) || !in(what, 0, 1)) return BAD;
        if (few()) return STATE;
        Set<Integer> fit = fitting(h, 1);
        int bestReign = NONE;
        int fewest = fit.size();
        for (int r = 1; r <= 20; r++) {
            Map<Integer, Integer> groups = new HashMap<>();
            for (int v : fit) groups.merge(now.withMan(h, 1, v).turns(r).get(r - 1).king(), 1, Integer::sum);
            int worst = groups.isEmpty() ? 0 : Collections.max(groups.values());
            if (worst < fewest) {
                fewest = worst;
                bestReign = r;
            }
        }
        return bestReign == NONE ? NONE : what == 0 ? bestReign : fewest;
    }

    int drift(int seed, int n, int what) {
        if (!in(n, 1, 60) || !in(what, 0, 1)) return BAD;
        if (few()) return STATE;
        BigInteger s = BigInteger.valueOf(seed);
        Realm r = now;
        for (int i = 0; i < n; i++) {
            s = s.multiply(BigInteger.valueOf(1103515245)).add(BigInteger.valueOf(12345));
            int bits = s.shiftRight(16).and(BigInteger.valueOf(32767)).intValueExact();
            r = r.withLumbago(bits % 10).turn(false).then();
        }
        return what == 0 ? r.works() : r.falls() - now.falls();
    }

    int keep(int k) {
        if (!in(k, 0, 1)) return BAD;
        return images.put(k, new Picture(now, List.copyOf(seen))) == null ? 0 : 1;
    }

    int back(int k) {
        if (!in(k, 0, 1)) return BAD;
        if (!images.containsKey(k)) return STATE;
        now = images.get(k).realm();
        seen = new ArrayList<>(images.get(k).seen());
        return now.works();
    }

    int sheet(int k, int lane, int n) {
        if (!in(k, 0, 3) || !in(lane, 0, 2) || n > 40) return BAD;
        try {
            sheets[k] = lane == 0 ? new byte[n] : lane == 1 ? new short[n] : new int[n];
        } catch (NegativeArraySizeException e) {
            return -14;
        }
        return 1;
    }

    int lay(int k, int i, int v) {
        if (!in(k, 0, 3)) return BAD;
        try {
            if (sheets[k] instanceof byte[] b) b[i] = (byte) v;
            else if (sheets[k] instanceof short[] s) s[i] = (short) v;
            else ((int[]) sheets[k])[i] = v;
        } catch (NullPointerException e) {
            return -11;
        } catch (ArrayIndexOutOfBoundsException e) {
            return -12;
        }
        return 1;
    }

    private static int cell(Object sheet, int lane, int i) {
        return lane == 0 ? ((byte[]) sheet)[i] : lane == 1 ? ((short[]) sheet)[i] : ((int[]) sheet)[i];
    }

    int read(int k, int lane, int f, int n) {
        if (!in(k, 0, 3) || !in(lane, 0, 2) || !in(n, 0, 20)) return BAD;
        Realm before = now;
        int met = 0;
        int came = 0;
        try {
            for (int i = 0; i < n; i++) {
                int h = cell(sheets[k], lane, f + 2 * i);
                int spring = cell(sheets[k], lane, f + 2 * i + 1);
                if (alter(h, 1, spring) == BAD || few() || now.reigns() == 999) {
                    now = before;
                    return -20 - i;
                }
                now = now.after(1);
                came++;
            }
        } catch (NullPointerException e) {
            met = 1;
        } catch (ArrayIndexOutOfBoundsException e) {
            met = 2;
        } catch (ClassCastException e) {
            met = 3;
        }
        torn = met;
        return came;
    }

    int torn() {
        return torn;
    }

    int count(int what) {
        switch (what) {
            case 0: return seen.size();
            case 1: return images.size();
            case 2: return tape.length();
            case 3: return sheets[0] == null ? NONE : java.lang.reflect.Array.getLength(sheets[0]);
            case 4: return now.men().stream().mapToInt(Man::spring).sum();
            case 5: return now.men().stream().mapToInt(Man::term).sum();
            default: return BAD;
        }
    }
}
