import java.util.ArrayList;
import java.util.List;
import java.util.function.ToIntFunction;

/**
 * The document told a second time, in the plainest way, without a thought for speed or room: texts
 * are taken apart anew for each question, yards are copied whole. GeeseKeys is held against it.
 */
final class Oracle {
    static final class Bird {
        int kind, v, court, key;
        boolean taken;
        int[] row = new int[4];

        Bird copy() {
            Bird b = new Bird();
            b.kind = kind;
            b.v = v;
            b.court = court;
            b.key = key;
            b.taken = taken;
            b.row = row.clone();
            return b;
        }
    }

    static final class World {
        int[] grain = {5, 5, 5, 5, 5, 5, 5, 5};
        List<int[]> gates = new ArrayList<>();
        List<Bird> birds = new ArrayList<>();
        int hour = 0;
        String text = null;
        List<int[]> seen = new ArrayList<>(), plan = new ArrayList<>(), book = new ArrayList<>();

        World copy() {
            World w = new World();
            w.grain = grain.clone();
            w.gates = new ArrayList<>(gates);
            for (Bird b : birds) {
                w.birds.add(b.copy());
            }
            w.hour = hour;
            w.text = text;
            w.seen = new ArrayList<>(seen);
            w.plan = new ArrayList<>(plan);
            w.book = new ArrayList<>(book);
            return w;
        }

        int eat() {
            int eat = 1;
            for (String clause : text == null ? new String[0] : text.split(";")) {
                if (clause.startsWith("eat ")) {
                    eat = Integer.parseInt(clause.substring(4));
                }
            }
            return eat;
        }

        int sum(int p, int c) {
            int sum = grain[c];
            for (String clause : text == null ? new String[0] : text.split(";")) {
                String[] parts = clause.split(" ");
                if (parts.length == 3 && holds(parts[2], p, c)) {
                    sum += (parts[0].equals("lure") ? 1 : -1) * Integer.parseInt(parts[1]);
                }
            }
            return sum;
        }

        /** Where a sign stands in no parentheses, or -1. */
        private int top(String e, char sign) {
            int depth = 0;
            for (int i = 0; i < e.length(); i++) {
                depth += e.charAt(i) == '(' ? 1 : e.charAt(i) == ')' ? -1 : 0;
                if (depth == 0 && e.charAt(i) == sign) {
                    return i;
                }
            }
            return -1;
        }

        boolean holds(String e, int p, int c) {
            int or = top(e, '|');
            if (or >= 0) {
                return holds(e.substring(0, or), p, c) || holds(e.substring(or + 1), p, c);
            }
            int and = top(e, '&');
            if (and >= 0) {
                return holds(e.substring(0, and), p, c) && holds(e.substring(and + 1), p, c);
            }
            if (e.startsWith("!")) {
                return !holds(e.substring(1), p, c);
            }
            if (e.startsWith("(")) {
                return holds(e.substring(1, e.length() - 1), p, c);
            }
            Bird b = birds.get(p);
            int value = switch (e.charAt(0)) {
                case 'p' -> p;
                case 'k' -> b.kind;
                case 'v' -> b.v;
                case 'c' -> c;
                case 'g' -> grain[c];
                default -> hour % 10;
            };
            int number = Integer.parseInt(e.substring(2));
            return switch (e.charAt(1)) {
                case '<' -> value < number;
                case '=' -> value == number;
                default -> value > number;
            };
        }

        int gander(int p, int c) {
            boolean other = false;
            for (int q = 0; q < birds.size(); q++) {
                other |= q != p && !birds.get(q).taken && birds.get(q).court == c;
            }
            return sum(p, c) - (other ? birds.get(p).v : 0);
        }

        int pull(int p, int c) {
            Bird b = birds.get(p);
            int old = b.court == c ? sum(p, c) : 0;
            return switch (b.kind) {
                case 1 -> gander(p, c);
                case 2 -> sum(p, c) / 2;
                case 3 -> old;
                case 4 -> gander(p, c) + (b.key >= 0 && b.key < gates.size()
                    && (gates.get(b.key)[0] == c || gates.get(b.key)[1] == c) ? 10 : 0);
                case 5 -> sum(p, c) / 2 + (c == 0 ? 5 : 0);
                case 6 -> old + b.row[c % 4];
                default -> sum(p, c);
            };
        }

        boolean open(int g) {
            for (Bird b : birds) {
                if (!b.taken && b.key == g && (gates.get(g)[0] == b.court || gates.get(g)[1] == b.court)) {
                    return true;
                }
            }
            return false;
        }

        int opens() {
            int bits = 0;
            for (int g = 0; g < gates.size(); g++) {
                bits |= open(g) ? 1 << g : 0;
            }
            return bits;
        }

        int goal(int p) {
            int here = birds.get(p).court;
            int best = -1;
            for (int c = 0; c < 8; c++) {
                boolean near = false;
                for (int[] g : gates) {
                    near |= g[0] == here && g[1] == c || g[1] == here && g[0] == c;
                }
                if (near && (best < 0 || pull(p, c) > pull(p, best))) {
                    best = c;
                }
            }
            return best >= 0 && pull(p, best) > pull(p, here) ? best : here;
        }

        World go(int n) {
            for (int i = 0; i < n; i++) {
                for (int p = 0; p < birds.size(); p++) {
                    Bird b = birds.get(p);
                    if (!b.taken) {
                        b.court = goal(p);
                        grain[b.court] = Math.max(0, grain[b.court] - eat());
                    }
                }
                hour++;
            }
            return this;
        }

        int all() {
            int all = 0;
            for (int n : grain) {
                all += n;
            }
            return all;
        }

        World more(int c, int n) {
            grain[c] = Math.min(99, grain[c] + n);
            return this;
        }

        int opens(int g) {
            World w = copy();
            for (int n = 0; n <= 20; n++) {
                if (w.open(g)) {
                    return n;
                }
                w.go(1);
            }
            return -5;
        }

        /** For 0 .. 15 hours the courts to which he gets in so many. */
        boolean[][] reached(int from) {
            boolean[][] at = new boolean[16][8];
            at[0][from] = true;
            World w = copy();
            for (int n = 0; n < 15; n++) {
                at[n + 1] = at[n].clone();
                for (int g = 0; g < gates.size(); g++) {
                    int[] ends = gates.get(g);
                    if (w.open(g)) {
                        at[n + 1][ends[0]] |= at[n][ends[1]];
                        at[n + 1][ends[1]] |= at[n][ends[0]];
                    }
                }
                w.go(1);
            }
            return at;
        }

        int way(int from, int to) {
            boolean[][] at = reached(from);
            for (int n = 0; n <= 15; n++) {
                if (at[n][to]) {
                    return n;
                }
            }
            return -5;
        }

        boolean asSeen() {
            for (int[] s : seen) {
                if (copy().go(s[1]).birds.get(s[0]).court != s[2]) {
                    return false;
                }
            }
            return true;
        }
    }

    static final int[] UNDER = {-1, 0, 0, 0, 1, 2, 3};
    private static final int[][] BODIES = {{10, 11, 12}, {-1, 20, -1}, {30, -1, -1}, {-1, -1, 40}, {50, 51, -1}, {-1, -1, 60}, {71, 70, -1}};

    World w = new World();
    World image = null;
    String text = "";
    int fortresses = 0;
    List<Integer> trace = new ArrayList<>();
    int[] sorts = {-1, -1, -1, -1, -1, -1};
    long[][] tapes = new long[6][0];

    private boolean court(int c) {
        return c >= 0 && c <= 7;
    }

    private boolean bird(int p) {
        return p >= 0 && p < w.birds.size();
    }

    private boolean hasGate(int g) {
        return g >= 0 && g < w.gates.size();
    }

    int gate(int one, int other) {
        if (!court(one) || !court(other)) return -1;
        if (one == other) return -2;
        if (w.gates.size() == 9) return -4;
        w.gates.add(new int[] {one, other});
        return w.gates.size() - 1;
    }

    int goose(int kind, int v, int court, int key) {
        if (kind < 0 || kind > 6 || !court(court) || key < -1 || key > 8) return -1;
        if (v < 0 || v > 9) return -2;
        if (w.birds.size() == 6) return -4;
        Bird b = new Bird();
        b.kind = kind;
        b.v = v;
        b.court = court;
        b.key = key;
        w.birds.add(b);
        return w.birds.size() - 1;
    }

    int of(int p, int what) {
        if (!bird(p)) return -10001;
        Bird b = w.birds.get(p);
        if (what == 0) return b.kind;
        if (what == 1) return b.v;
        if (what == 2) return b.court;
        if (what == 3) return b.key < 0 ? -5 : b.key;
        if (what == 4) return b.taken ? 1 : 0;
        if (what == 5) return w.goal(p);
        return what >= 10 && what <= 17 ? w.pull(p, what - 10) : -10001;
    }

    int key(int p, int key) {
        if (!bird(p) || key < -1 || key > 8) return -1;
        int was = w.birds.get(p).key;
        w.birds.get(p).key = key;
        return was < 0 ? -5 : was;
    }

    int put(int p, int c) {
        if (!bird(p) || !court(c)) return -1;
        int was = w.birds.get(p).court;
        w.birds.get(p).court = c;
        return was;
    }

    int take(int p, boolean is) {
        if (!bird(p)) return -1;
        boolean was = w.birds.get(p).taken;
        w.birds.get(p).taken = is;
        return was ? 1 : 0;
    }

    int grain(int c, int n) {
        if (!court(c)) return -1;
        if (n < 0 || n > 99) return -2;
        int was = w.grain[c];
        w.grain[c] = n;
        return was;
    }

    int row(int p, int part, int n) {
        if (!bird(p) || part < 0 || part > 3) return -1;
        if (n < 0 || n > 9) return -2;
        if (w.birds.get(p).kind != 6) return -3;
        int was = w.birds.get(p).row[part];
        w.birds.get(p).row[part] = n;
        return was;
    }

    int feed(int sign) {
        if (sign < 0 || sign > 127) return -2;
        if (text.length() == 100) return -4;
        text += (char) sign;
        return text.length();
    }

    int fortress() {
        if (fortresses == 6) return -4;
        int fault = Grammar.fault(text);
        if (fault < 0) {
            w.text = text;
        }
        text = "";
        return fault < 0 ? fortresses++ : -10 - fault;
    }

    int told(int what) {
        if (what == 0) return w.hour;
        if (what == 1) return w.eat();
        if (what == 2) return w.opens();
        if (what == 3) {
            int shut = 0;
            for (int g = 0; g < w.gates.size(); g++) {
                shut |= w.opens(g) == -5 ? 1 << g : 0;
            }
            return shut;
        }
        if (what == 4) return w.all();
        if (what >= 10 && what <= 17) return w.grain[what - 10];
        if (what < 20 || what > 27) return -1;
        return bits(w.reached(what - 20)[15]);
    }

    private static int bits(boolean[] is) {
        int bits = 0;
        for (int i = 0; i < is.length; i++) {
            bits |= is[i] ? 1 << i : 0;
        }
        return bits;
    }

    int pass(int n) {
        if (n < 0 || n > 60) return -2;
        if (w.hour + n > 9999) return -3;
        return w.go(n).hour;
    }

    int on(int n, int what) {
        if (what != 0 && (what < 10 || what > 17) && (what < 20 || !bird(what - 20))) return -1;
        if (n < 0 || n > 60) return -2;
        World then = w.copy().go(n);
        return what == 0 ? then.opens() : what < 20 ? then.grain[what - 10] : then.birds.get(what - 20).court;
    }

    int opens(int g) {
        return hasGate(g) ? w.opens(g) : -1;
    }

    private static int late(int hours) {
        return hours == -5 ? Integer.MAX_VALUE : hours;
    }

    int way(int from, int to, int what) {
        if (!court(from) || !court(to) || what < 0 || what > 1) return -1;
        if (what == 0) return w.way(from, to);
        int least = late(w.way(from, to));
        int best = -5;
        for (int i = 0; i < w.birds.size(); i++) {
            for (int j = i + 1; j < w.birds.size(); j++) {
                World t = w.copy();
                t.birds.get(i).key = w.birds.get(j).key;
                t.birds.get(j).key = w.birds.get(i).key;
                if (late(t.way(from, to)) < least) {
                    least = late(t.way(from, to));
                    best = 10 * i + j;
                }
            }
        }
        return best;
    }

    int lead(int g, int n) {
        if (!hasGate(g)) return -1;
        if (n < 1 || n > 99) return -2;
        int least = late(w.opens(g));
        int best = -5;
        for (int c = 0; c < 8; c++) {
            int hours = late(w.copy().more(c, n).opens(g));
            if (hours < least) {
                least = hours;
                best = c;
            }
        }
        return best;
    }

    int see(int p, int n, int c) {
        if (p == -1) {
            w.seen.clear();
            return 0;
        }
        if (!bird(p) || !court(c)) return -1;
        if (n < 0 || n > 12) return -2;
        if (w.seen.size() == 5) return -4;
        w.seen.add(new int[] {p, n, c});
        return w.seen.size();
    }

    int from(int p) {
        if (!bird(p)) return -1;
        int bits = 0;
        for (int c = 0; c < 8; c++) {
            World t = w.copy();
            t.birds.get(p).court = c;
            bits |= t.asSeen() ? 1 << c : 0;
        }
        return bits;
    }

    int can(int p, int what) {
        if (!bird(p) || what < 0 || what > 1) return -1;
        int many = 0;
        int least = -5;
        for (int v = 9; v >= 0; v--) {
            World t = w.copy();
            t.birds.get(p).v = v;
            if (t.asSeen()) {
                many++;
                least = v;
            }
        }
        return what == 0 ? many : least;
    }

    private static long fraction(int above, int below, int part) {
        for (int d = below; d > 1; d--) {
            if (above % d == 0 && below % d == 0) {
                return part == 0 ? above / d : below / d;
            }
        }
        return part == 0 ? above : below;
    }

    long odds(int g, int n, int part) {
        if (!hasGate(g) || n < 0 || n > 20 || part < 0 || part > 1) return Long.MIN_VALUE;
        int open = 0;
        for (int c = 0; c < 8; c++) {
            open += w.copy().more(c, 9).go(n).open(g) ? 1 : 0;
        }
        return fraction(open, 8, part);
    }

    long mean(int n, int part) {
        if (n < 0 || n > 60 || part < 0 || part > 1) return Long.MIN_VALUE;
        return fraction(w.copy().go(n).all(), 8, part);
    }

    int plan(int what, int n) {
        if (what == -1) {
            w.plan.clear();
            return 0;
        }
        if (what < 0 || what > 3 || what == 1 && !court(n) || what > 1 && !bird(n)) return -1;
        if (w.plan.size() == 10) return -4;
        w.plan.add(new int[] {what, n});
        return w.plan.size();
    }

    int ends(int what) {
        if (what < 0 || what > 1) return -1;
        World t = w.copy();
        for (int[] row : w.plan) {
            if (row[0] == 0) t.go(1);
            if (row[0] == 1) t.more(row[1], 9);
            if (row[0] > 1) t.birds.get(row[1]).taken = row[0] == 2;
        }
        return what == 0 ? t.opens() : t.all();
    }

    int book(int c, int n) {
        if (c == -1) {
            w.book.clear();
            return 0;
        }
        if (!court(c)) return -1;
        if (n < 0 || n > 99) return -2;
        if (w.book.size() == 8) return -4;
        w.book.add(new int[] {c, n});
        return w.book.size();
    }

    int looked() {
        for (int i = 0; i < w.book.size(); i++) {
            if (w.grain[w.book.get(i)[0]] != w.book.get(i)[1]) return i;
        }
        return -5;
    }

    int judge(int t, int i) {
        if (t < 0 || t > 5) return -1;
        if (sorts[t] > 0) return -12;
        if (sorts[t] < 0 || i < 0) return 100;
        for (int c = 0; c < 8; c++) {
            if ((long) i + c >= tapes[t].length) return 100 + c;
            if (tapes[t][i + c] != w.grain[c]) return c;
        }
        return -5;
    }

    int image() {
        image = w.copy();
        return w.birds.size();
    }

    int undo() {
        if (image == null) return -3;
        w = image.copy();
        return w.birds.size();
    }

    /** The body of an act from a kind on: bodies are told by their numbers. */
    private int run(int kind, int act, int x, int p) {
        int k = kind;
        while (BODIES[k][act] < 0) {
            k = UNDER[k];
        }
        int own = w.birds.get(p).kind;
        int v = w.birds.get(p).v;
        int up = UNDER[k];
        trace.add(BODIES[k][act]);
        switch (BODIES[k][act]) {
            case 10: return x + p;
            case 11: return run(own, 0, x, p) - v;
            case 12: return run(own, 1, x, p) * 2;
            case 20: return run(up, 1, x, p) ^ 6;
            case 30: return run(up, 0, x * 3, p);
            case 40: return run(up, 2, x, p) + run(own, 1, 1, p);
            case 50: return -run(up, 0, x, p);
            case 51: return run(up, 1, x + 1, p);
            case 60: return run(up, 2, x - p, p);
            case 70: return run(up, 1, x, p) + run(up, 0, 2, p);
            default: return run(up, 0, x, p) ^ v;
        }
    }

    int act(int p, int act, int x) {
        trace.clear();
        return bird(p) && act >= 0 && act <= 2 ? run(w.birds.get(p).kind, act, x, p) : 0;
    }

    int trace(int i) {
        return i >= 0 && i < Math.min(20, trace.size()) ? trace.get(i) : -1;
    }

    int taken(int p, int k) {
        if (k < 0 || k > 6) return -2;
        if (!bird(p)) return -11;
        for (int at = w.birds.get(p).kind; at >= 0; at = UNDER[at]) {
            if (at == k) return w.birds.get(p).kind;
        }
        return -12;
    }

    int count(int what) {
        List<ToIntFunction<Oracle>> counts = List.of(o -> o.w.birds.size(), o -> o.w.gates.size(), o -> o.fortresses,
            o -> o.w.seen.size(), o -> o.w.plan.size(), o -> o.w.book.size(), o -> o.text.length(), o -> o.trace.size());
        return what >= 0 && what < 8 ? counts.get(what).applyAsInt(this) : -2;
    }

    int tape(int t, int sort, int n) {
        if (t < 0 || t > 5) return -1;
        if (sort < -1 || sort > 4 || sort >= 0 && n > 60) return -2;
        if (sort >= 0 && n < 0) return -14;
        sorts[t] = sort;
        tapes[t] = new long[sort < 0 ? 0 : n];
        return 1;
    }

    int item(int t, int i, long v) {
        if (t < 0 || t > 5) return -1;
        if (sorts[t] < 0) return -11;
        if (i < 0 || i >= tapes[t].length) return -13;
        tapes[t][i] = switch (sorts[t]) {
            case 0 -> (byte) v;
            case 1 -> (short) v;
            case 2 -> (int) v;
            case 3 -> v;
            default -> v != 0 ? 1 : 0;
        };
        return 1;
    }

    long read(int t, int i) {
        return t < 0 || t > 5 || i < 0 || i >= tapes[t].length ? Long.MIN_VALUE : tapes[t][i];
    }

    int shift(int t, int i, int other, int j, int n) {
        if (t < 0 || t > 5 || other < 0 || other > 5) return -1;
        if (sorts[t] < 0 || sorts[other] < 0) return -11;
        if (sorts[t] != sorts[other]) return -12;
        if (n < 0 || i < 0 || j < 0 || (long) i + n > tapes[t].length || (long) j + n > tapes[other].length) return -13;
        long[] before = tapes[t].clone();
        for (int k = 0; k < n; k++) {
            tapes[other][j + k] = before[i + k];
        }
        return n;
    }
}
