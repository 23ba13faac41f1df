import java.lang.reflect.Method;
import java.lang.reflect.Modifier;
import java.util.ArrayList;
import java.util.Arrays;
import java.util.Comparator;
import java.util.List;
import java.util.Random;

/** Runs of 512 calls, made up from seeds, each answer held against the oracle's. */
public final class OracleTest {
    private static final Check CHECK = new Check("OracleTest");
    private static final int RUNS = 80, CALLS = 512, YARDS = 150;

    private static final String[] BUSY = {"of", "of", "told", "told", "way", "way", "opens", "lead", "from", "can", "odds",
        "on", "ends", "see", "plan", "pass", "put", "key", "grain", "fortress", "fortress"};

    public static void main(String[] args) throws Exception {
        faults();
        List<Method> methods = new ArrayList<>();
        for (Method method : GeeseKeys.class.getDeclaredMethods()) {
            if (Modifier.isPublic(method.getModifiers())) {
                methods.add(method);
            }
        }
        methods.sort(Comparator.comparing(Method::getName));
        CHECK.due("methods", methods.size(), 36);
        for (int seed = 0; seed < RUNS; seed++) {
            run(seed, methods);
        }
        for (int seed = 0; seed < YARDS; seed++) {
            yard(new Random(1000 + seed), "yard " + seed);
        }
        CHECK.end();
    }

    private static void faults() {
        Random random = new Random(5);
        for (int n = 0; n < 1500; n++) {
            String text = text(random);
            GeeseKeys x = Check.feed(new GeeseKeys(), text);
            int fault = Grammar.fault(text);
            CHECK.due("fortress of " + text, x.fortress(), fault < 0 ? 0 : -10 - fault);
        }
    }

    private static void run(int seed, List<Method> methods) throws Exception {
        Random random = new Random(seed);
        GeeseKeys x = new GeeseKeys();
        Oracle oracle = new Oracle();
        List<String> calls = new ArrayList<>();
        int made = 0;
        while (made < CALLS) {
            Method method = methods.get(random.nextInt(methods.size()));
            if (random.nextInt(2) == 0) {
                String name = BUSY[random.nextInt(BUSY.length)];
                method = methods.stream().filter(m -> m.getName().equals(name)).findFirst().orElseThrow();
            }
            if (made < 14) {
                String name = made < 8 ? "gate" : "goose";
                method = methods.stream().filter(m -> m.getName().equals(name)).findFirst().orElseThrow();
            }
            if (method.getName().equals("fortress")) {
                String text = text(random);
                for (int i = 0; i < text.length(); i++) {
                    x.feed(text.charAt(i));
                    oracle.feed(text.charAt(i));
                }
                made += Math.min(40, text.length());
            }
            Object[] values = values(random, method, made < 14);
            String call = method.getName() + Arrays.toString(values);
            calls.add(call);
            Method twin = Oracle.class.getDeclaredMethod(method.getName(), method.getParameterTypes());
            long got = ((Number) method.invoke(x, values)).longValue();
            long want = ((Number) twin.invoke(oracle, values)).longValue();
            CHECK.due("run " + seed + " " + call + " as call " + calls.size(), got, want);
            if (got != want) {
                return;
            }
            made++;
        }
    }

    /** A yard in which much goes on: keys are those of gates that are near, what is seen is mostly so. */
    private static void yard(Random random, String name) {
        GeeseKeys x = new GeeseKeys();
        Oracle oracle = new Oracle();
        int courts = 4 + random.nextInt(5);
        for (int n = 3 + random.nextInt(7); n > 0; n--) {
            int one = random.nextInt(courts);
            int other = (one + 1 + random.nextInt(courts - 1)) % courts;
            CHECK.due(name + " gate", x.gate(one, other), oracle.gate(one, other));
        }
        for (int n = 1 + random.nextInt(6); n > 0; n--) {
            int kind = random.nextInt(7), v = random.nextInt(10), court = random.nextInt(courts);
            int key = random.nextInt(oracle.w.gates.size());
            CHECK.due(name + " goose", x.goose(kind, v, court, key), oracle.goose(kind, v, court, key));
        }
        for (int court = 0; court < 8; court++) {
            int n = random.nextInt(random.nextBoolean() ? 100 : 25);
            CHECK.due(name + " grain", x.grain(court, n), oracle.grain(court, n));
        }
        for (int goose = 0; goose < oracle.w.birds.size(); goose++) {
            for (int part = 0; part < 4; part++) {
                int n = random.nextInt(10);
                CHECK.due(name + " row", x.row(goose, part, n), oracle.row(goose, part, n));
            }
        }
        if (random.nextInt(5) > 0) {
            String text = text(random);
            Check.feed(x, text);
            oracle.text = text;
            CHECK.due(name + " " + text, x.fortress(), oracle.fortress());
        }
        if (random.nextInt(3) == 0) {
            int goose = random.nextInt(oracle.w.birds.size());
            CHECK.due(name + " take", x.take(goose, true), oracle.take(goose, true));
        }
        int hours = random.nextInt(3);
        CHECK.due(name + " pass", x.pass(hours), oracle.pass(hours));
        askYard(random, name, x, oracle);
        askSeen(random, name, x, oracle);
        hours = random.nextInt(20);
        CHECK.due(name + " pass", x.pass(hours), oracle.pass(hours));
        for (int what = 0; what < 28; what++) {
            CHECK.due(name + " told " + what + " later", x.told(what), oracle.told(what));
        }
    }

    private static void askYard(Random random, String name, GeeseKeys x, Oracle oracle) {
        for (int what = 0; what < 28; what++) {
            CHECK.due(name + " told " + what, x.told(what), oracle.told(what));
        }
        for (int goose = 0; goose < oracle.w.birds.size(); goose++) {
            for (int what = 0; what < 18; what++) {
                CHECK.due(name + " of " + goose + " " + what, x.of(goose, what), oracle.of(goose, what));
            }
            int n = random.nextInt(61);
            CHECK.due(name + " on " + n, x.on(n, 20 + goose), oracle.on(n, 20 + goose));
        }
        for (int gate = 0; gate < oracle.w.gates.size(); gate++) {
            int n = 1 + random.nextInt(random.nextBoolean() ? 99 : 20);
            CHECK.due(name + " opens " + gate, x.opens(gate), oracle.opens(gate));
            CHECK.due(name + " lead " + gate + " " + n, x.lead(gate, n), oracle.lead(gate, n));
            int hours = random.nextInt(21);
            int part = random.nextInt(2);
            CHECK.due(name + " odds " + gate + " " + hours, x.odds(gate, hours, part), oracle.odds(gate, hours, part));
        }
        for (int n = 0; n < 8; n++) {
            int from = random.nextInt(8), to = random.nextInt(8), what = random.nextInt(2);
            String call = name + " way " + from + " " + to + " " + what;
            CHECK.due(call, x.way(from, to, what), oracle.way(from, to, what));
            int hours = random.nextInt(61);
            CHECK.due(name + " mean " + hours, x.mean(hours, n % 2), oracle.mean(hours, n % 2));
            int row = random.nextInt(4);
            int of = random.nextInt(row == 1 ? 8 : 6);
            CHECK.due(name + " plan " + row + " " + of, x.plan(row, of), oracle.plan(row, of));
            CHECK.due(name + " ends 0", x.ends(0), oracle.ends(0));
            CHECK.due(name + " ends 1", x.ends(1), oracle.ends(1));
        }
    }

    private static void askSeen(Random random, String name, GeeseKeys x, Oracle oracle) {
        int goose = random.nextInt(oracle.w.birds.size());
        int v = random.nextInt(10);
        for (int n = 0; n < 4; n++) {
            Oracle.World then = oracle.w.copy();
            then.birds.get(goose).v = v;
            int hours = random.nextInt(14);
            int seen = random.nextInt(4) > 0 ? goose : random.nextInt(oracle.w.birds.size());
            int court = random.nextInt(12) > 0 ? then.go(Math.min(12, hours)).birds.get(seen).court : random.nextInt(8);
            CHECK.due(name + " see", x.see(seen, hours, court), oracle.see(seen, hours, court));
            for (int each = 0; each < oracle.w.birds.size(); each++) {
                CHECK.due(name + " from " + each, x.from(each), oracle.from(each));
                CHECK.due(name + " can " + each, x.can(each, 0), oracle.can(each, 0));
                CHECK.due(name + " can " + each, x.can(each, 1), oracle.can(each, 1));
            }
        }
    }

    private static Object[] values(Random random, Method method, boolean isFirst) {
        Class<?>[] types = method.getParameterTypes();
        Object[] values = new Object[types.length];
        for (int i = 0; i < types.length; i++) {
            values[i] = types[i] == boolean.class ? (Object) (random.nextInt(3) == 0)
                : types[i] == long.class ? (Object) (random.nextBoolean() ? random.nextLong() : random.nextInt(100))
                : (Object) number(random, method.getName(), i, isFirst);
            if (types[i] == long.class && values[i] instanceof Integer) {
                values[i] = (long) (Integer) values[i];
            }
        }
        return values;
    }

    /** Mostly what the call can use, at times what it can't. */
    private static int number(Random random, String name, int i, boolean isFirst) {
        int odd = isFirst ? 100 : random.nextInt(100);
        if (odd == 0) return Integer.MIN_VALUE + random.nextInt(3);
        if (odd == 1) return Integer.MAX_VALUE - random.nextInt(3);
        if (odd < 6) return random.nextInt(130) - 10;
        if (odd < 10) return random.nextInt(8) - 2;
        switch (name + i) {
            case "goose0": return random.nextInt(7);
            case "goose1": return random.nextInt(10);
            case "goose3": case "key1": return random.nextInt(10) - 1;
            case "of1": return random.nextBoolean() ? random.nextInt(6) : 10 + random.nextInt(8);
            case "told0": return random.nextBoolean() ? random.nextInt(5) : (random.nextBoolean() ? 10 : 20) + random.nextInt(8);
            case "grain1": return random.nextBoolean() ? random.nextInt(100) : random.nextInt(25);
            case "lead1": return 1 + random.nextInt(random.nextBoolean() ? 99 : 20);
            case "pass0": return random.nextInt(random.nextInt(8) == 0 ? 61 : 4);
            case "on0": case "mean0": return random.nextInt(61);
            case "on1": return new int[] {0, 10 + random.nextInt(8), 20 + random.nextInt(6)}[random.nextInt(3)];
            case "opens0": case "lead0": case "odds0": return random.nextInt(9);
            case "see0": return random.nextInt(10) - (random.nextInt(4) == 0 ? 6 : 0);
            case "see1": return random.nextInt(13);
            case "odds1": return random.nextInt(21);
            case "plan0": return random.nextInt(12) == 0 ? -1 : random.nextInt(4);
            case "book0": return random.nextInt(12) == 0 ? -1 : random.nextInt(8);
            case "book1": return random.nextBoolean() ? 5 : random.nextInt(100);
            case "way2": case "can1": case "odds2": case "mean1": case "ends0": return random.nextInt(2);
            case "act1": return random.nextInt(3);
            case "act2": return random.nextInt();
            case "feed0": return "lureat 12!(p=".charAt(random.nextInt(13));
            case "tape1": return random.nextInt(3) == 0 ? 0 : random.nextInt(6) - 1;
            case "tape2": return random.nextInt(63) - 1;
            case "item1": case "read1": case "judge1": case "shift1": case "shift3": case "shift4": return random.nextInt(20);
            case "row1": return random.nextInt(4);
            case "row2": return random.nextInt(10);
            case "gate0": case "gate1": case "goose2": case "put1": case "grain0": case "way0": case "way1": case "see2":
                return random.nextInt(8);
            case "item0": case "read0": case "judge0": case "shift0": case "shift2": case "tape0": return random.nextInt(6);
            case "taken1": return random.nextInt(7);
            default: return random.nextInt(7);
        }
    }

    /** A fortress, mostly; at times spoilt somewhere, or cut short. */
    private static String text(Random random) {
        StringBuilder text = new StringBuilder();
        int clauses = 1 + random.nextInt(random.nextInt(6) == 0 ? 12 : 4);
        for (int n = 0; n < clauses; n++) {
            String clause = (n == 0 ? "" : ";") + clause(random);
            if (text.length() + clause.length() <= 100 || random.nextInt(30) == 0) {
                text.append(clause);
            }
        }
        if (random.nextInt(5) == 0) {
            int at = random.nextInt(text.length());
            String signs = "lureatscp=<>!&|() ;0123456789kvgh";
            text.setCharAt(at, signs.charAt(random.nextInt(signs.length())));
        }
        if (random.nextInt(12) == 0) {
            text.setLength(random.nextInt(text.length() + 1));
        }
        return text.substring(0, Math.min(100, text.length()));
    }

    private static String clause(Random random) {
        int sort = random.nextInt(5);
        if (sort == 0) {
            return "eat " + random.nextInt(4);
        }
        return (sort < 3 ? "lure " : "scare ") + random.nextInt(25) + " " + either(random, 0);
    }

    private static String either(Random random, int depth) {
        String one = both(random, depth);
        return random.nextInt(4) == 0 ? one + "|" + either(random, depth) : one;
    }

    private static String both(Random random, int depth) {
        String one = factor(random, depth);
        return random.nextInt(4) == 0 ? one + "&" + both(random, depth) : one;
    }

    private static String factor(Random random, int depth) {
        int sort = random.nextInt(depth < 4 || random.nextInt(40) == 0 ? 6 : 4);
        if (sort == 4) {
            return "!" + factor(random, depth + 1);
        }
        if (sort == 5) {
            return "(" + either(random, depth + 1) + ")";
        }
        char letter = "pkvcgh".charAt(random.nextInt(6));
        int most = letter == 'g' ? 30 : 10;
        return "" + letter + "<=>".charAt(random.nextInt(3)) + random.nextInt(most);
    }
}
