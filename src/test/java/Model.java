import java.math.BigInteger;
import java.util.ArrayDeque;
import java.util.ArrayList;
import java.util.HashMap;
import java.util.List;
import java.util.Map;
import java.util.TreeSet;
import java.util.regex.Matcher;
import java.util.regex.Pattern;

/** The document once more, by other means and without care for cost: what the class is held against. */
final class Model {
    private static final int BAD = -1, NO = -2, FULL = -3, NONE = -4;
    private static final Pattern ITEM = Pattern.compile("([ntaw])(\\d\\d?);|(p)(\\d\\d?),(\\d\\d?),(\\d\\d?),(\\d\\d?);");

    /** What the calls can change. */
    private static final class Changed {
        final int[] starts;
        final TreeSet<Integer> held = new TreeSet<>();
        final TreeSet<Integer> passing = new TreeSet<>();

        Changed(int[] starts, TreeSet<Integer> held, TreeSet<Integer> passing) {
            this.starts = starts.clone();
            this.held.addAll(held);
            this.passing.addAll(passing);
        }

        Changed copy() {
            return new Changed(starts, held, passing);
        }

        Changed withStart(int p, int s) {
            Changed other = copy();
            other.starts[p] = s;
            return other;
        }
    }

    private static final class Told {
        int cells = 12;
        final List<Integer> trains = new ArrayList<>();
        final List<int[]> platforms = new ArrayList<>();
        final TreeSet<Integer> passing = new TreeSet<>();
        final TreeSet<Integer> rain = new TreeSet<>();
        int fault = NONE;
    }

    /** One step's end. */
    private static final class Moment {
        int[] cell, waits, wet, way, called;
        boolean[] went;

        Moment copy() {
            Moment m = new Moment();
            m.cell = cell.clone();
            m.waits = waits.clone();
            m.wet = wet.clone();
            m.way = way.clone();
            m.called = called.clone();
            m.went = new boolean[cell.length];
            return m;
        }
    }

    private String text = "";
    private Told told;
    private Changed now;
    private final ArrayDeque<Changed> before = new ArrayDeque<>();
    private final ArrayDeque<Changed> kept = new ArrayDeque<>();
    private final List<Object[]> clues = new ArrayList<>();

    Model() {
        text = "n12;t3;t7;t10;a6;a11;p0,0,0,0;p2,5,1,0;p4,9,0,3;p3,2,1,1;w4;w5;";
        lay();
        text = "";
    }

    private static Told read(String text) {
        Told told = new Told();
        Matcher item = ITEM.matcher(text);
        int begin = 0;
        boolean others = false;
        while (begin < text.length() && told.fault == NONE) {
            item.region(begin, text.length());
            boolean so = item.lookingAt() && take(told, item, others);
            if (!so) {
                told.fault = begin;
            } else {
                others |= item.group(1) == null || !item.group(1).equals("n");
                begin = item.end();
            }
        }
        return told;
    }

    private static boolean take(Told told, Matcher item, boolean others) {
        if (item.group(3) != null) {
            int[] p = new int[4];
            for (int i = 0; i < 4; i++) p[i] = Integer.parseInt(item.group(4 + i));
            long there = told.platforms.stream().filter(q -> q[1] == p[1]).count();
            long room = told.passing.contains(p[1]) ? 2 : 1;
            if (told.platforms.size() == 5 || p[0] > 4 || p[1] >= told.cells || p[2] > 1 || p[3] > 30 || there >= room) {
                return false;
            }
            return told.platforms.add(p);
        }
        int x = Integer.parseInt(item.group(2));
        String letter = item.group(1);
        if (letter.equals("n")) {
            if (others || x < 4 || x > 24) return false;
            told.cells = x;
            return true;
        }
        if (x >= told.cells) return false;
        if (letter.equals("t")) return told.trains.size() < 5 && told.trains.add(x);
        (letter.equals("a") ? told.passing : told.rain).add(x);
        return true;
    }

    private boolean noP(int p) { return p < 0 || p >= told.platforms.size(); }

    private boolean noT(int t) { return t < 0 || t >= told.trains.size(); }

    private static boolean not01(int what) { return what != 0 && what != 1; }

    int write(int letter) {
        if (letter < 32 || letter > 126) return BAD;
        if (text.length() == 200) return FULL;
        text += (char) letter;
        return text.length();
    }

    int wipe() {
        int was = text.length();
        text = "";
        return was;
    }

    int fault() { return read(text).fault; }

    int lay() {
        Told next = read(text);
        if (next.fault != NONE || next.platforms.isEmpty()) return NO;
        told = next;
        now = new Changed(next.platforms.stream().mapToInt(p -> p[3]).toArray(), new TreeSet<>(), next.passing);
        before.clear();
        kept.clear();
        clues.clear();
        return next.platforms.size();
    }

    int platform(int p, int what) {
        if (noP(p) || what < 0 || what > 4) return BAD;
        if (what == 3) return now.starts[p];
        if (what == 4) return now.held.contains(p) ? 1 : 0;
        return told.platforms.get(p)[what];
    }

    int train(int t) { return noT(t) ? BAD : told.trains.get(t); }

    int cell(int x, int what) {
        if (x < 0 || x >= told.cells || not01(what)) return BAD;
        return (what == 0 ? now.passing : told.rain).contains(x) ? 1 : 0;
    }

    private void change(Changed next) {
        before.addLast(now);
        if (before.size() > 8) before.removeFirst();
        now = next;
    }

    int start(int p, int s) {
        if (noP(p) || s < 0 || s > 30) return BAD;
        int was = now.starts[p];
        change(now.withStart(p, s));
        return was;
    }

    private static int toggle(TreeSet<Integer> set, int x) {
        if (set.remove(x)) return 0;
        set.add(x);
        return 1;
    }

    int hold(int p) {
        if (noP(p)) return BAD;
        change(now.copy());
        return toggle(now.held, p);
    }

    int pass(int x) {
        if (x < 0 || x >= told.cells) return BAD;
        if (told.platforms.stream().filter(p -> p[1] == x).count() == 2) return NO;
        change(now.copy());
        return toggle(now.passing, x);
    }

    int undo() {
        if (before.isEmpty()) return NO;
        now = before.removeLast();
        return before.size();
    }

    private Moment begin() {
        int n = told.platforms.size();
        Moment m = new Moment();
        m.cell = told.platforms.stream().mapToInt(p -> p[1]).toArray();
        m.way = told.platforms.stream().mapToInt(p -> p[2] == 0 ? 1 : -1).toArray();
        m.waits = new int[n];
        m.wet = new int[n];
        m.called = new int[n];
        m.went = new boolean[n];
        java.util.Arrays.fill(m.called, -9);
        return m;
    }

    private static long others(Moment m, int p, int x) {
        long many = 0;
        for (int q = 0; q < m.cell.length; q++) if (q != p && m.cell[q] == x) many++;
        return many;
    }

    private Moment next(Moment last, int step, Changed by) {
        Moment m = last.copy();
        for (int p = 0; p < m.cell.length; p++) {
            int kind = told.platforms.get(p)[0];
            if (by.held.contains(p) || step < Math.max(1, by.starts[p])) continue;
            if (kind == 1 && step % 2 == 1) continue;
            if (kind == 2 && m.called[p] == step - 1) continue;
            for (int go = kind == 4 ? 2 : 1; go > 0; go--) {
                int x = Math.floorMod(m.cell[p] + m.way[p], told.cells);
                if (others(m, p, x) >= (by.passing.contains(x) ? 2 : 1)) {
                    m.waits[p]++;
                    if (kind == 3) m.way[p] = -m.way[p];
                    break;
                }
                m.cell[p] = x;
                m.went[p] = true;
                if (told.trains.contains(x)) m.called[p] = step;
            }
        }
        for (int p = 0; p < m.cell.length; p++) {
            if (told.rain.contains(m.cell[p]) && others(m, p, m.cell[p]) == 0) m.wet[p]++;
        }
        return m;
    }

    private List<Moment> run(Changed by) {
        List<Moment> all = new ArrayList<>();
        all.add(begin());
        for (int step = 1; step <= 60; step++) all.add(next(all.get(step - 1), step, by));
        return all;
    }

    int where(int p, int s, int what) {
        if (noP(p) || s < 0 || s > 60 || what < 0 || what > 2) return BAD;
        Moment m = run(now).get(s);
        return (what == 0 ? m.cell : what == 1 ? m.waits : m.wet)[p];
    }

    private int firstBy(Changed by, int p, int t) {
        List<Moment> all = run(by);
        for (int s = 0; s <= 60; s++) if (all.get(s).cell[p] == told.trains.get(t)) return s;
        return NONE;
    }

    int first(int p, int t) { return noP(p) || noT(t) ? BAD : firstBy(now, p, t); }

    int hang() {
        int bits = 0;
        List<Moment> all = run(now);
        for (int p = 0; p < told.platforms.size(); p++) {
            boolean went = now.held.contains(p);
            for (int s = 31; s <= 60; s++) went |= all.get(s).went[p];
            if (!went) bits |= 1 << p;
        }
        return bits;
    }

    /** The fewest times onto platforms for each place to be (trains t, platforms 10 + p), step by step. */
    int trip(int a, int b, int what) {
        if (noT(a) || noT(b) || a == b || not01(what)) return BAD;
        List<Moment> all = run(now);
        Map<Integer, Integer> best = new HashMap<>();
        best.put(a, 0);
        for (int s = 0; s <= 60; s++) {
            Moment m = all.get(s);
            for (int round = 0; round < 20; round++) {
                for (int p = 0; p < m.cell.length; p++) {
                    for (int t = 0; t < told.trains.size(); t++) {
                        if (m.cell[p] != told.trains.get(t)) continue;
                        if (best.containsKey(t)) best.merge(10 + p, best.get(t) + 1, Math::min);
                        if (best.containsKey(10 + p)) best.merge(t, best.get(10 + p), Math::min);
                    }
                }
            }
            if (best.containsKey(b)) return what == 0 ? s : best.get(b);
        }
        return NONE;
    }

    int best(int p, int t, int what) {
        if (noP(p) || noT(t) || not01(what)) return BAD;
        int start = NONE;
        int step = 1000;
        for (int s = 0; s <= 30; s++) {
            int reached = firstBy(now.withStart(p, s), p, t);
            if (reached == NONE || reached > step) continue;
            start = s;
            step = reached;
        }
        if (start == NONE) return NONE;
        return what == 0 ? start : step;
    }

    private boolean calm(int... besides) {
        Changed by = now.copy();
        for (int x : besides) by.passing.add(x);
        for (int waits : run(by).get(60).waits) if (waits != 0) return false;
        return true;
    }

    int places(int k) {
        if (k < 0 || k > 2) return BAD;
        if (calm()) return k == 0 ? 0 : NONE;
        for (int a = 0; a < told.cells; a++) {
            if (calm(a)) return k == 0 ? 1 : k == 1 ? a : NONE;
        }
        for (int a = 0; a < told.cells; a++) {
            for (int b = a + 1; b < told.cells; b++) {
                if (calm(a, b)) return k == 0 ? 2 : k == 1 ? a : b;
            }
        }
        return NONE;
    }

    int came(int t, int s, boolean did) {
        if (noT(t) || s < 1 || s > 60) return BAD;
        if (clues.size() == 6) return FULL;
        clues.add(new Object[] {t, s, did});
        return clues.size();
    }

    int forget() {
        int was = clues.size();
        clues.clear();
        return was;
    }

    int fits(int p) {
        if (noP(p)) return BAD;
        int bits = 0;
        for (int s = 0; s <= 30; s++) {
            List<Moment> all = run(now.withStart(p, s));
            boolean fit = true;
            for (Object[] clue : clues) {
                int x = told.trains.get((Integer) clue[0]);
                fit &= others(all.get((Integer) clue[1]), -1, x) > 0 == (Boolean) clue[2];
            }
            if (fit) bits |= 1 << s;
        }
        return bits;
    }

    int from(int p, int t, int s, int what) {
        if (noP(p) || noT(t) || not01(what) || s < 0 || s > 60 || what == 1 && s == 0) return BAD;
        List<Moment> all = run(now);
        int up = Math.floorMod(told.trains.get(t) - all.get(s).cell[p], told.cells);
        if (what == 0) return up;
        int less = Math.floorMod(told.trains.get(t) - all.get(s - 1).cell[p], told.cells) - up;
        double half = told.cells / 2.0;
        if (less > half) less -= told.cells;
        else if (less <= -half) less += told.cells;
        return less + 100;
    }

    int clocks(int p, int q, int what) {
        if (noP(p) || noP(q) || p == q || not01(what)) return BAD;
        List<Integer> met = new ArrayList<>();
        List<Moment> all = run(now);
        for (int s = 0; s <= 60; s++) if (all.get(s).cell[p] == all.get(s).cell[q]) met.add(s);
        return what == 0 ? met.size() : met.isEmpty() ? NONE : met.get(0);
    }

    private BigInteger flood(Moment m, int step, int p, int t, int n, int x) {
        if (step > n) return BigInteger.ZERO;
        BigInteger sum = BigInteger.ZERO;
        for (int held = 0; held < 2; held++) {
            Changed by = now.copy();
            if (held == 1) by.held.add(p);
            else by.held.remove(p);
            Moment after = next(m, step, by);
            BigInteger rest = after.cell[p] == told.trains.get(t)
                    ? BigInteger.TEN.pow(n - step) : flood(after, step + 1, p, t, n, x);
            sum = sum.add(rest.multiply(BigInteger.valueOf(held == 1 ? x : 10 - x)));
        }
        return sum;
    }

    int floods(int p, int t, int n, int x, int part) {
        if (noP(p) || noT(t) || n < 0 || n > 6 || x < 0 || x > 10 || not01(part)) return BAD;
        BigInteger above = flood(begin(), 1, p, t, n, x);
        BigInteger below = BigInteger.TEN.pow(n);
        BigInteger common = above.gcd(below);
        return (part == 0 ? above : below).divide(common).intValueExact();
    }

    int day(int z, int what) {
        if (z < 0 || z > 9999 || not01(what)) return BAD;
        Changed by = now.copy();
        for (int i = 0; i < by.starts.length; i++) {
            BigInteger x = BigInteger.valueOf(7919).multiply(BigInteger.valueOf(z)).add(BigInteger.valueOf(331L * i + 1));
            by.starts[i] = x.multiply(x).mod(BigInteger.valueOf(65521)).intValueExact() / 8 % 31;
        }
        int sum = 0;
        for (int p = 0; p < by.starts.length; p++) {
            if (what == 0) sum += run(by).get(60).waits[p];
            for (int t = 0; what == 1 && t < told.trains.size(); t++) if (firstBy(by, p, t) != NONE) sum++;
        }
        return sum;
    }

    int keep() {
        if (kept.size() == 2) return FULL;
        kept.addLast(now.copy());
        return kept.size();
    }

    int back() {
        if (kept.isEmpty()) return NO;
        now = kept.removeLast();
        before.clear();
        return kept.size();
    }

    int count(int what) {
        int[] all = {told.cells, told.trains.size(), told.platforms.size(), now.passing.size(), now.held.size(),
            clues.size(), before.size(), kept.size(), text.length()};
        return what < 0 || what >= all.length ? BAD : all[what];
    }
}
