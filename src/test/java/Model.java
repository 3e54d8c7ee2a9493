import java.util.ArrayList;
import java.util.Arrays;
import java.util.List;

/**
 * The document told a second time, by trying out what it says instead of reckoning it:
 * RandomTest compares the class with it. Method names and parameters are those of the class.
 */
public final class Model {
    private static final class Someone {
        int kind;
        int a;
        int thick;
        int out;
        int[][] strength = new int[6][8];
        int[] smears = new int[6];
        int[] drift = new int[6];

        Someone same() {
            Someone s = new Someone();
            s.kind = kind;
            s.a = a;
            s.thick = thick;
            s.out = out;
            for (int i = 0; i < 6; i++) {
                s.strength[i] = strength[i].clone();
            }
            s.smears = smears.clone();
            s.drift = drift.clone();
            return s;
        }

        int loss(int sheet) {
            switch (kind) {
                case 0: return thick;
                case 1: return sheet == 1 ? 0 : thick;
                case 2: return thick + 2;
                case 3: return sheet == 5 ? (thick + 2) * 2 : thick + 2;
                case 4: return thick / 2;
                case 5: return thick / 2 + a % 2;
                default: return sheet == 1 ? 0 : sheet == 3 ? thick + a : thick;
            }
        }

        int press(int deed, int f) {
            int got = f;
            int many = 0;
            int shift = 0;
            for (int j = 0; out + j < 6; j++) {
                if (j > 0) {
                    got = got - loss(j) < 0 ? 0 : got - loss(j);
                    shift += kind == 6 ? a + (j == 3 ? 1 : 0) : 1;
                }
                if (got > 0) {
                    many++;
                    strength[out + j][deed] = Math.min(99, strength[out + j][deed] + got);
                    drift[out + j] = Math.min(999, drift[out + j] + shift);
                }
            }
            return many;
        }

        int rub(int copy, int deed) {
            int was = strength[copy][deed];
            strength[copy][deed] = 0;
            smears[copy] = Math.min(99, smears[copy] + 1);
            return was;
        }

        boolean has(int copy, int deed, int least) {
            return strength[copy][deed] >= least;
        }
    }

    private static final class World {
        List<Someone> people = new ArrayList<>();
        int least = 10;
        int seed = 1;

        World same() {
            World w = new World();
            for (Someone s : people) {
                w.people.add(s.same());
            }
            w.least = least;
            w.seed = seed;
            return w;
        }

        int draw(int n) {
            seed = (int) (seed * 1103515245L + 12345L);
            return (int) (((seed & 0xffffffffL) >> 16) % n);
        }

        int dead() {
            return people.stream().mapToInt(s -> s.out).sum();
        }

        int smears() {
            return people.stream().mapToInt(s -> Arrays.stream(s.smears).sum()).sum();
        }

        int strengths() {
            return people.stream().mapToInt(s -> Arrays.stream(s.strength).mapToInt(r -> Arrays.stream(r).sum()).sum())
                .sum();
        }

        /** Whether what a number of a told life tells could be; then it has been. */
        boolean live(int v) {
            if (v < 10000 || v > 39999) {
                return false;
            }
            int p = v >= 30000 ? v - 30000 : v % 10000 / 1000;
            if (p >= people.size() || people.get(p).out == 6) {
                return false;
            }
            Someone s = people.get(p);
            int middle = v % 1000 / 100;
            int last = v % 100;
            if (v < 20000) {
                if (middle > 7 || last == 0) {
                    return false;
                }
                s.press(middle, last);
            } else if (v < 30000) {
                if (middle > 5 || middle < s.out || last > 7) {
                    return false;
                }
                s.rub(middle, last);
            } else {
                s.out++;
            }
            return true;
        }
    }

    private World world = new World();
    private World kept = null;
    private final long[][] rows = new long[8][];
    private final int[] held = {-1, -1, -1, -1, -1, -1, -1, -1};
    private final int[] refused = new int[8];
    private final List<Integer> ran = new ArrayList<>();
    private int fault = -1;

    private int no(int code) {
        int counted = code < -10000 ? code + 10000 : code < -10 ? code + 10 : code;
        refused[-counted]++;
        return code;
    }

    private Someone one(int p) {
        return p >= 0 && p < world.people.size() ? world.people.get(p) : null;
    }

    private static boolean in(long v, long from, long to) {
        return v >= from && v <= to;
    }

    private int lacksRow(int s) {
        if (!in(s, 0, 7)) {
            return -1;
        }
        return held[s] >= 100 ? 0 : held[s] >= 0 ? -2 : -3;
    }

    public int row(int s, int sort, int n) {
        if (!in(s, 0, 7)) return no(-1);
        if (n < 0) return no(-4);
        if (!in(sort, 0, 3)) return no(-6);
        if (n > 160) return no(-7);
        rows[s] = new long[n];
        held[s] = 100 + sort;
        return 1;
    }

    public int set(int s, int i, long v) {
        if (lacksRow(s) != 0) return no(lacksRow(s));
        if (!in(i, 0, rows[s].length - 1)) return no(-5);
        int spare = 64 - (8 << held[s] - 100);
        rows[s][i] = v << spare >> spare;
        return 1;
    }

    public int copy(int p, int q, int i, int j, int n) {
        int first = lacksRow(p);
        int second = lacksRow(q);
        if (first == -1 || second == -1) return no(-1);
        if (first == -2 || second == -2) return no(-2);
        if (first == 0 && second == 0 && held[p] != held[q]) return no(-2);
        if (first == -3 || second == -3) return no(-3);
        if (n < 0) return no(-4);
        if (i < 0 || j < 0 || (long) i + n > rows[p].length || (long) j + n > rows[q].length) return no(-5);
        long[] ahead = rows[p].clone();
        for (int k = 0; k < n; k++) {
            rows[q][j + k] = ahead[i + k];
        }
        return 1;
    }

    public long element(int s, int i) {
        return lacksRow(s) == 0 && in(i, 0, rows[s].length - 1) ? rows[s][i] : 0;
    }

    public int show(int s, int person) {
        if (!in(s, 0, 7) || person != -1 && one(person) == null) return no(-1);
        held[s] = person;
        return person == -1 ? 0 : 1;
    }

    public int holds(int s) {
        return in(s, 0, 7) ? held[s] : -1;
    }

    public int says(int s, int kind) {
        if (!in(s, 0, 7) || !in(kind, 0, 6)) return no(-1);
        if (held[s] >= 100) return no(-2);
        if (held[s] == -1) return no(-3);
        Someone one = world.people.get(held[s]);
        String[] under = {"0", "01", "02", "023", "04", "045", "016"};
        if (under[one.kind].indexOf('0' + kind) < 0) return no(-2);
        return new int[] {one.thick, one.out, one.loss(5), one.loss(5), one.loss(1), one.loss(1), one.out}[kind];
    }

    public int person(int kind, int a, int thick) {
        if (!in(kind, 0, 6)) return no(-1);
        if (!in(a, 0, 9) || !in(thick, 1, 20)) return no(-6);
        if (world.people.size() == 6) return no(-7);
        return add(world, kind, a, thick);
    }

    private static int add(World w, int kind, int a, int thick) {
        Someone s = new Someone();
        s.kind = kind;
        s.a = a;
        s.thick = thick;
        w.people.add(s);
        return w.people.size() - 1;
    }

    public int ask(int v) {
        if (!in(v, 1, 99)) return no(-6);
        int was = world.least;
        world.least = v;
        return was;
    }

    public int personOf(int person, int what) {
        Someone s = one(person);
        if (s == null || !in(what, 0, 5)) return no(-5);
        return new int[] {s.kind, s.a, s.thick, s.out, Arrays.stream(s.strength[5]).sum(),
            Arrays.stream(s.smears).sum()}[what];
    }

    public int copyOf(int person, int copy, int what) {
        Someone s = one(person);
        if (s == null || !in(copy, 0, 5) || !in(what, 0, 2)) return no(-5);
        return what == 0 ? s.smears[copy] : what == 1 ? bits(s, copy) : copy < s.out ? 1 : 0;
    }

    private int bits(Someone s, int copy) {
        int bits = 0;
        for (int d = 0; d < 8; d++) {
            bits += s.has(copy, d, world.least) ? 1 << d : 0;
        }
        return bits;
    }

    public int strength(int person, int copy, int deed) {
        if (one(person) == null || !in(copy, 0, 5) || !in(deed, 0, 7)) return no(-5);
        return one(person).strength[copy][deed];
    }

    public int drift(int person, int copy) {
        return one(person) == null || !in(copy, 0, 5) ? no(-10005) : one(person).drift[copy];
    }

    public int loss(int person, int sheet) {
        if (one(person) == null) return no(-1);
        return in(sheet, 1, 5) ? one(person).loss(sheet) : no(-6);
    }

    public int land(int s) {
        if (lacksRow(s) != 0) return no(lacksRow(s));
        int[] text = new int[rows[s].length];
        for (int i = 0; i < text.length; i++) {
            text[i] = (int) rows[s][i];
        }
        World w = world.same();
        int[] items = new int[1];
        fault = read(text, w, items);
        if (fault != -1) return no(-6);
        world = w;
        return items[0];
    }

    private static int read(int[] text, World w, int[] items) {
        int at = 0;
        while (true) {
            String word = null;
            int furthest = at;
            for (String candidate : new String[] {"person", "press", "rub", "dies", "least"}) {
                int k = 0;
                while (k < candidate.length() && at + k < text.length && text[at + k] == candidate.charAt(k)) {
                    k++;
                }
                furthest = Math.max(furthest, at + k);
                word = k == candidate.length() ? candidate : word;
            }
            if (word == null) return furthest;
            if (word.equals("person") && w.people.size() == 6) return at;
            at += word.length();
            int wanted = word.equals("dies") || word.equals("least") ? 1 : 3;
            int[] told = new int[3];
            for (int k = 0; k < wanted; k++) {
                if (at >= text.length || text[at] != ' ') return at;
                at++;
                int digits = 0;
                while (digits < 2 && at + digits < text.length && in(text[at + digits], '0', '9')) {
                    told[k] = told[k] * 10 + text[at + digits] - '0';
                    digits++;
                }
                if (digits == 0 || !mayBe(w, word, k, told)) return at;
                at += digits;
            }
            tell(w, word, told);
            items[0]++;
            if (at == text.length) return -1;
            if (text[at] != ';') return at;
            at++;
        }
    }

    private static boolean mayBe(World w, String word, int k, int[] told) {
        if (word.equals("least")) return in(told[0], 1, 99);
        if (word.equals("person")) return in(told[k], k == 2 ? 1 : 0, new int[] {6, 9, 20}[k]);
        if (told[0] >= w.people.size()) return false;
        Someone s = w.people.get(told[0]);
        if (k == 0) return word.equals("rub") || s.out < 6;
        if (word.equals("press")) return k == 1 ? told[1] < 8 : told[2] > 0;
        return k == 1 ? in(told[1], s.out, 5) : told[2] < 8;
    }

    private static void tell(World w, String word, int[] told) {
        switch (word) {
            case "person": add(w, told[0], told[1], told[2]); break;
            case "press": w.people.get(told[0]).press(told[1], told[2]); break;
            case "rub": w.people.get(told[0]).rub(told[1], told[2]); break;
            case "dies": w.people.get(told[0]).out++; break;
            default: w.least = told[0]; break;
        }
    }

    public int fault() {
        return fault;
    }

    public int have(int person, int deed) {
        if (one(person) == null) return no(-1);
        if (!in(deed, 0, 7)) return no(-6);
        int bits = 0;
        for (int c = one(person).out; c < 6; c++) {
            bits += one(person).has(c, deed, world.least) ? 1 << c : 0;
        }
        return bits;
    }

    public int all(int person) {
        if (one(person) == null) return no(-1);
        int bits = 0;
        for (int d = 0; d < 8; d++) {
            boolean all = true;
            for (int c = one(person).out; c < 6; c++) {
                all &= one(person).has(c, d, world.least);
            }
            bits += all ? 1 << d : 0;
        }
        return bits;
    }

    public int force(int person, int deed, int k, int what) {
        Someone s = one(person);
        if (s == null) return no(-11);
        if (!in(what, 0, 1)) return no(-15);
        if (!in(deed, 0, 7) || !in(k, s.out, 5)) return no(-16);
        for (int f = 1; f < 100; f++) {
            Someone trial = s.same();
            trial.press(deed, f);
            boolean good = true;
            for (int c = s.out; c < 6; c++) {
                boolean has = trial.has(c, deed, world.least);
                good &= c <= k ? has : what == 0 || !has;
            }
            if (good) return f;
        }
        return -1;
    }

    public int got(int person, int k, int f) {
        Someone s = one(person);
        if (s == null) return no(-1);
        if (!in(k, s.out, 5) || !in(f, 1, 99)) return no(-6);
        Someone trial = s.same();
        trial.strength[k][0] = 0;
        trial.press(0, f);
        return trial.strength[k][0];
    }

    private int lacksTold(int s, int n, int e) {
        if (lacksRow(s) != 0) return lacksRow(s);
        return n < 0 ? -4 : n > rows[s].length ? -5 : in(n, 1, 8) && in(e, 0, 20) ? 0 : -6;
    }

    private List<Integer> fits(int s, int n, int e) {
        List<Integer> all = new ArrayList<>();
        for (int code = 0; code < 60; code++) {
            Someone one = one(code / 10);
            if (one == null || !in(code % 10, one.out, 5)) continue;
            boolean fits = true;
            for (int d = 0; d < n; d++) {
                fits &= in(one.strength[code % 10][d], (long) (int) rows[s][d] - e, (long) (int) rows[s][d] + e);
            }
            if (fits) all.add(code);
        }
        return all;
    }

    public int which(int s, int n, int e, int i) {
        if (lacksTold(s, n, e) != 0) return no(lacksTold(s, n, e));
        List<Integer> all = fits(s, n, e);
        return i == -1 ? all.size() : in(i, 0, all.size() - 1) ? all.get(i) : no(-5);
    }

    public int next(int s, int n, int e) {
        if (lacksTold(s, n, e) != 0) return no(lacksTold(s, n, e) - 10);
        List<Integer> all = fits(s, n, e);
        for (int worst = 1; worst <= all.size() && all.size() > 1; worst++) {
            for (int d = n; d < 8; d++) {
                int deed = d;
                int having = (int) all.stream().filter(c -> one(c / 10).has(c % 10, deed, world.least)).count();
                if (having <= worst && all.size() - having <= worst) return d;
            }
        }
        return -1;
    }

    public int unlike(int one, int other) {
        int[] told = {one, other};
        for (int t : told) {
            if (t < 0 || one(t / 10) == null || t % 10 > 5) return no(-6);
        }
        return differing(one(one / 10), one % 10, one(other / 10), other % 10);
    }

    private int differing(Someone s, int c, Someone t, int b) {
        int many = 0;
        for (int d = 0; d < 8; d++) {
            many += s.has(c, d, world.least) != t.has(b, d, world.least) ? 1 : 0;
        }
        return many;
    }

    public int odd(int person) {
        Someone s = one(person);
        if (s == null) return no(-1);
        if (s.out == 6) return no(-6);
        int[] unlike = new int[6];
        for (int c = s.out; c < 6; c++) {
            for (int b = s.out; b < 6; b++) {
                unlike[c] += differing(s, c, s, b);
            }
        }
        for (int c = s.out; c < 6; c++) {
            if (unlike[c] == Arrays.stream(unlike).max().getAsInt()) return c;
        }
        return -99;
    }

    public int mend(int person, int deed) {
        Someone s = one(person);
        if (s == null) return no(-1);
        if (!in(deed, -1, 7)) return no(-6);
        int rubs = 0;
        for (int d = 0; d < 8; d++) {
            int having = 0;
            for (int c = s.out; c < 6; c++) {
                having += s.has(c, d, world.least) ? 1 : 0;
            }
            rubs += (deed == -1 || deed == d) && having < 6 - s.out ? having : 0;
        }
        return rubs;
    }

    public int paired(int person, int other, int i) {
        Someone s = one(person);
        Someone t = one(other);
        if (s == null || t == null || person == other) return no(-11);
        if (!in(i, -1, 5 - s.out)) return no(-15);
        int[] best = new int[7];
        best[6] = -1;
        tryPairs(s, t, new int[7], s.out, best);
        return i == -1 ? best[6] : best[s.out + i];
    }

    /** All rows in their order: the first that beats all ahead of it stays. */
    private void tryPairs(Someone s, Someone t, int[] row, int at, int[] best) {
        if (at == 6) {
            if (row[6] > best[6]) {
                System.arraycopy(row, 0, best, 0, 7);
            }
            return;
        }
        for (int partner = -1; partner < 6; partner++) {
            boolean free = partner == -1 || partner >= t.out;
            for (int c = s.out; c < at; c++) {
                free &= partner == -1 || row[c] != partner;
            }
            if (!free) continue;
            int shared = partner == -1 ? 0 : Integer.bitCount(bits(s, at) & bits(t, partner));
            row[at] = partner;
            row[6] += shared;
            tryPairs(s, t, row, at + 1, best);
            row[6] -= shared;
        }
    }

    public int bear(int person, int deed) {
        if (one(person) == null) return no(-1);
        return in(deed, 0, 7) ? bears(one(person), deed) : no(-6);
    }

    private int bears(Someone s, int deed) {
        int dyings = 0;
        for (int c = s.out; c < 6; c++) {
            dyings = s.has(c, deed, world.least) ? c + 1 - s.out : dyings;
        }
        return dyings;
    }

    public int heir(int deed) {
        if (world.people.isEmpty()) return no(-5);
        if (!in(deed, 0, 7)) return no(-6);
        for (int longest = 6; longest >= 0; longest--) {
            for (int p = 0; p < world.people.size(); p++) {
                if (bears(one(p), deed) == longest) return p;
            }
        }
        return -99;
    }

    public int straight(int person, int what) {
        if (one(person) == null) return no(-11);
        if (!in(what, 0, 2)) return no(-15);
        int[] left = one(person).drift.clone();
        int bits = 0;
        int moves = 0;
        int first = -1;
        for (int c = 0; c < 6; c++) {
            bits += left[c] == 0 ? 1 << c : 0;
        }
        for (int c = 0; c < 6; c++) {
            while (left[c] != 0) {
                int step = left[c] > 0 ? -1 : 1;
                for (int b = c; b < 6; b++) {
                    left[b] += step;
                }
                moves++;
                first = first == -1 ? c : first;
            }
        }
        return what == 0 ? bits : what == 1 ? moves : first;
    }

    private int lacksLife(int s, int n, boolean told) {
        if (lacksRow(s) != 0) return lacksRow(s);
        return n < 0 ? -4 : n > rows[s].length || !told ? -5 : n > 40 ? -6 : 0;
    }

    private static int lived(World w, long[] life, int n) {
        for (int i = 0; i < n; i++) {
            if (!w.live((int) life[i])) return i;
        }
        return -1;
    }

    public int judge(int s, int n) {
        if (lacksLife(s, n, true) != 0) return no(lacksLife(s, n, true) - 10);
        return lived(world.same(), rows[s], n);
    }

    public int behind(int s, int n, int what) {
        int lack = lacksLife(s, n, in(what, 0, 2));
        if (lack != 0) return no(lack);
        World w = world.same();
        if (lived(w, rows[s], n) != -1) return no(-6);
        return what == 0 ? w.strengths() : what == 1 ? w.dead() : w.smears();
    }

    public int done(int s, int n) {
        int lack = lacksLife(s, n, true);
        if (lack != 0) return no(lack);
        World w = world.same();
        if (lived(w, rows[s], n) != -1) return no(-6);
        world = w;
        return w.dead();
    }

    public int press(int person, int deed, int f) {
        Someone s = one(person);
        if (s == null) return no(-1);
        return in(deed, 0, 7) && in(f, 1, 99) && s.out < 6 ? s.press(deed, f) : no(-6);
    }

    public int rub(int person, int copy, int deed) {
        Someone s = one(person);
        if (s == null) return no(-1);
        return in(copy, s.out, 5) && in(deed, 0, 7) ? s.rub(copy, deed) : no(-6);
    }

    public int dies(int person) {
        Someone s = one(person);
        if (s == null) return no(-1);
        return s.out < 6 ? ++s.out : no(-6);
    }

    public int years(int n) {
        if (world.people.isEmpty()) return no(-5);
        if (!in(n, 1, 100)) return no(-6);
        for (int i = 0; i < n; i++) {
            Someone s = one(world.draw(world.people.size()));
            int what = world.draw(8);
            int first = what < 5 ? world.draw(8) : what < 7 ? world.draw(6) : 0;
            int second = what < 5 ? 1 + world.draw(60) : what < 7 ? world.draw(8) : 0;
            if (what < 5 && s.out < 6) {
                s.press(first, second);
            } else if (in(what, 5, 6) && first >= s.out) {
                s.rub(first, second);
            } else if (what == 7 && s.out < 6) {
                s.out++;
            }
        }
        return world.dead();
    }

    public int seed(int v) {
        int was = world.seed;
        world.seed = v;
        return was;
    }

    public int act(int person, int move, int x) {
        ran.clear();
        return one(person) == null || !in(move, 0, 2) ? 0 : run(move, one(person), person, one(person).kind, x);
    }

    /** The body of a move from a kind on: 0 lives, 1 goes, 2 looks. */
    private int run(int move, Someone s, int m, int kind, int x) {
        int k = s.a;
        int above = new int[] {-1, 0, 0, 2, 0, 4, 1}[kind];
        switch (10 * kind + move) {
            case 0: ran.add(10); return x + m;
            case 1: ran.add(11); return run(0, s, m, s.kind, x) * 2;
            case 2: {
                ran.add(12);
                int went = run(1, s, m, s.kind, x);
                return went ^ run(0, s, m, s.kind, x - k);
            }
            case 10: ran.add(20); return run(0, s, m, above, x) + k;
            case 21: ran.add(30); return run(1, s, m, above, x) * 3;
            case 31: ran.add(40); return run(1, s, m, above, x + 1);
            case 42: ran.add(50); return -run(2, s, m, above, x);
            case 40: ran.add(51); return run(0, s, m, above, x) - m;
            case 52: ran.add(60); return run(2, s, m, above, x) ^ 5;
            case 60: ran.add(70); return run(0, s, m, above, x) * 2;
            case 61: ran.add(71); return run(1, s, m, above, x - k);
            default: return run(move, s, m, above, x);
        }
    }

    public int trace(int i) {
        return in(i, 0, Math.min(20, ran.size()) - 1) ? ran.get(i) : -1;
    }

    public int image() {
        kept = world.same();
        return kept.people.size();
    }

    public int restore() {
        if (kept == null) return no(-6);
        world = kept.same();
        for (int s = 0; s < 8; s++) {
            held[s] = held[s] < 100 && held[s] >= world.people.size() ? -1 : held[s];
        }
        return world.people.size();
    }

    public int status(int what) {
        if (in(what, 11, 17)) return refused[what - 10];
        if (!in(what, 0, 6)) return -1;
        return new int[] {world.people.size(), world.dead(), world.least, world.strengths(), world.smears(),
            world.seed, ran.size()}[what];
    }
}
