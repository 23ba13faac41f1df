import java.util.Arrays;

/** Promises 27 to 37: judging, the image, acts, tapes. */
public final class TapesTest {
    private static final Check CHECK = new Check("TapesTest");
    private static final int MIN = Integer.MIN_VALUE, MAX = Integer.MAX_VALUE;
    private static final long NO = Long.MIN_VALUE;

    private static void due(String call, long got, long want) {
        CHECK.due(call, got, want);
    }

    public static void main(String[] args) {
        constants();
        judge();
        image();
        imageOfAll();
        acts();
        noActs();
        taken();
        count();
        tape();
        item();
        read();
        shift();
        CHECK.end();
    }

    private static void constants() {
        due("NONE", GeeseKeys.NONE, -1);
        due("BAD", GeeseKeys.BAD, -2);
        due("STATE", GeeseKeys.STATE, -3);
        due("FULL", GeeseKeys.FULL, -4);
        due("NO", GeeseKeys.NO, Long.MIN_VALUE);
    }

    private static void judge() {
        GeeseKeys x = new GeeseKeys();
        due("27 tape -1", x.judge(-1, 0), -1);
        due("27 tape 6", x.judge(6, 0), -1);
        due("27 nothing", x.judge(0, 3), 100);
        x.tape(0, 0, 10);
        for (int place = 0; place < 10; place++) {
            x.item(0, place, 5);
        }
        due("27 none", x.judge(0, 0), -5);
        due("27 up to the end", x.judge(0, 2), -5);
        due("27 ends", x.judge(0, 3), 107);
        due("27 ends", x.judge(0, 9), 101);
        due("27 at the end", x.judge(0, 10), 100);
        due("27 beyond", x.judge(0, 11), 100);
        due("27 far beyond", x.judge(0, MAX), 100);
        due("27 below 0", x.judge(0, -1), 100);
        due("27 far below", x.judge(0, MIN), 100);
        x.item(0, 4, 6);
        due("27 the fifth", x.judge(0, 0), 4);
        due("27 the first", x.judge(0, 4), 0);
        due("27 ends", x.judge(0, 5), 105);
        x.grain(4, 6);
        due("27 as told", x.judge(0, 0), -5);
        x.grain(2, 99);
        x.item(0, 2, 99 + 256);
        due("27 its lowest bits", x.judge(0, 0), -5);
        x.grain(7, 0);
        due("27 the last", x.judge(0, 0), 7);
        for (int sort = 1; sort < 5; sort++) {
            x.tape(1, sort, 8);
            due("27 another sort", x.judge(1, 0), -12);
            due("27 another sort", x.judge(1, -1), -12);
        }
        x.tape(0, 0, 0);
        due("27 an empty row", x.judge(0, 0), 100);
    }

    private static void image() {
        GeeseKeys x = new GeeseKeys();
        due("29 none", x.undo(), -3);
        due("28 no geese", x.image(), 0);
        x.goose(0, 0, 0, 0);
        due("29 no geese", x.undo(), 0);
        due("29 no geese", x.count(0), 0);
        x.goose(6, 1, 2, 3);
        x.row(0, 2, 8);
        due("28 one", x.image(), 1);
        x.goose(5, 5, 5, 5);
        due("29 one", x.undo(), 1);
        due("29 once more", x.undo(), 1);
        x.put(0, 7);
        due("28 a newer one", x.image(), 1);
        x.put(0, 1);
        due("29 the newer one", x.undo(), 1);
        due("29 the newer one", x.of(0, 2), 7);
        due("29 her row", x.row(0, 2, 8), 8);
        x = new GeeseKeys();
        x.image();
        x.goose(6, 1, 2, 3);
        x.row(0, 0, 6);
        x.row(0, 1, 7);
        x.gate(2, 3);
        x.gate(2, 4);
        x.gate(2, 5);
        x.gate(2, 6);
        x.grain(6, 9);
        due("12 open", x.told(2), 8);
        x.take(0, true);
        x.image();
        due("29 taken", x.undo(), 1);
        due("29 taken", x.of(0, 4), 1);
        x = new GeeseKeys();
        x.image();
        x.goose(6, 1, 2, 3);
        x.goose(0, 1, 2, 3);
        x.row(0, 0, 6);
        x.row(0, 1, 7);
        for (int court = 3; court < 7; court++) {
            x.gate(2, court);
        }
        x.grain(6, 9);
        due("12 open", x.told(2), 8);
        due("29 none", x.undo(), 0);
        due("12 open", x.told(2), 0);
        due("12 shut", x.told(3), 0);
        due("12 far", x.told(22), 4);
        due("13 nobody eats", x.pass(1) + x.told(4), 41);
        x.undo();
        x.goose(6, 2, 1, 4);
        due("3 a new one in her place", x.of(0, 1), 2);
        due("3 a new one in her place", x.row(0, 0, 0), 0);
        due("3 a new one in her place", x.row(0, 1, 0), 0);
        due("3 a new one in her place", x.of(0, 5), 1);
        due("12 far", x.told(21), 2);
        due("3 a new one in her place", x.of(0, 4), 0);
    }

    private static GeeseKeys full() {
        GeeseKeys x = Check.told("eat 2;lure 3 c=1");
        x.gate(0, 1);
        x.goose(6, 1, 0, 0);
        x.goose(0, 4, 7, 8);
        x.row(0, 0, 9);
        x.see(0, 0, 0);
        x.plan(0, 0);
        x.book(0, 5);
        x.tape(0, 0, 4);
        x.feed(101);
        return x;
    }

    private static void imageOfAll() {
        GeeseKeys x = full();
        x.image();
        x.gate(1, 2);
        x.goose(0, 0, 0, 0);
        x.key(0, 5);
        x.put(1, 3);
        x.take(1, true);
        x.row(0, 0, 3);
        x.grain(4, 44);
        x.pass(9);
        x.see(-1, 0, 0);
        x.see(1, 2, 3);
        x.see(1, 2, 4);
        x.plan(1, 3);
        x.book(-1, 0);
        Check.feed(x, "at 9;lure 50 c>0").fortress();
        x.tape(0, 1, 9);
        x.feed(102);
        x.act(0, 0, 1);
        due("29 two", x.undo(), 2);
        GeeseKeys y = full();
        for (int what = 0; what < 28; what++) {
            due("29 told " + what, x.told(what), y.told(what));
        }
        for (int what = 0; what < 18; what++) {
            due("29 of 0 " + what, x.of(0, what), y.of(0, what));
            due("29 of 1 " + what, x.of(1, what), y.of(1, what));
        }
        due("29 gates", x.count(1), 1);
        due("29 seen", x.count(3), 1);
        due("29 seen", x.from(0), 1);
        due("29 plan", x.count(4), 1);
        due("29 ends", x.ends(1), y.ends(1));
        due("29 book", x.count(5), 1);
        due("29 looked", x.looked(), -5);
        due("29 fortresses stay", x.count(2), 2);
        due("29 the text stays", x.count(6), 1);
        due("29 the trace stays", x.trace(0), 71);
        due("29 tapes stay", x.item(0, 8, 1), 1);
        due("11 the text that stayed", Check.feed(x, "eat 9").fortress(), -10);
        due("11 a fortress more", Check.feed(x, "eat 9").fortress(), 2);
        due("12 it holds", x.told(1), 9);
        x.undo();
        due("29 the older one holds", x.told(1), 2);
    }

    private static void dueAct(GeeseKeys x, int goose, int act, int n, int answer, int... bodies) {
        String call = "act(" + goose + ", " + act + ", " + n + ") of kind " + x.of(goose, 0);
        due("30 " + call, x.act(goose, act, n), answer);
        due("33 bodies of " + call, x.count(7), bodies.length);
        for (int i = 0; i < bodies.length; i++) {
            due("31 trace " + i + " of " + Arrays.toString(bodies) + " of " + call, x.trace(i), bodies[i]);
        }
        due("31 behind the last of " + call, x.trace(bodies.length), -1);
        due("31 below 0", x.trace(-1), -1);
    }

    private static void acts() {
        for (int i = 0; i < 6; i++) {
            for (int v = 0; v < 10; v += 3) {
                for (int n : new int[] {0, 5, -7, 1000, MAX, MIN}) {
                    actsOfKinds(i, v, n);
                }
            }
        }
    }

    private static GeeseKeys withKind(int kind, int i, int v) {
        GeeseKeys x = new GeeseKeys();
        for (int goose = 0; goose < i; goose++) {
            x.goose(0, 9, 0, 0);
        }
        x.goose(kind, v, 0, 0);
        return x;
    }

    private static void actsOfKinds(int i, int v, int n) {
        GeeseKeys x = withKind(0, i, v);
        dueAct(x, i, 0, n, n + i, 10);
        dueAct(x, i, 1, n, n + i - v, 11, 10);
        dueAct(x, i, 2, n, (n + i - v) * 2, 12, 11, 10);
        x = withKind(1, i, v);
        dueAct(x, i, 0, n, n + i, 10);
        dueAct(x, i, 1, n, (n + i - v) ^ 6, 20, 11, 10);
        dueAct(x, i, 2, n, ((n + i - v) ^ 6) * 2, 12, 20, 11, 10);
        x = withKind(2, i, v);
        dueAct(x, i, 0, n, n * 3 + i, 30, 10);
        dueAct(x, i, 1, n, n * 3 + i - v, 11, 30, 10);
        dueAct(x, i, 2, n, (n * 3 + i - v) * 2, 12, 11, 30, 10);
        x = withKind(3, i, v);
        dueAct(x, i, 0, n, n + i, 10);
        dueAct(x, i, 1, n, n + i - v, 11, 10);
        dueAct(x, i, 2, n, (n + i - v) * 2 + 1 + i - v, 40, 12, 11, 10, 11, 10);
        x = withKind(4, i, v);
        dueAct(x, i, 0, n, -(n + i), 50, 10);
        int struts = (-(n + 1 + i) - v) ^ 6;
        dueAct(x, i, 1, n, struts, 51, 20, 11, 50, 10);
        dueAct(x, i, 2, n, struts * 2, 12, 51, 20, 11, 50, 10);
        x = withKind(5, i, v);
        dueAct(x, i, 0, n, n * 3 + i, 30, 10);
        dueAct(x, i, 1, n, n * 3 + i - v, 11, 30, 10);
        dueAct(x, i, 2, n, ((n - i) * 3 + i - v) * 2, 60, 12, 11, 30, 10);
        x = withKind(6, i, v);
        dueAct(x, i, 0, n, (n + i) ^ v, 71, 10);
        struts = ((n + i) ^ v) - v + 2 + i;
        dueAct(x, i, 1, n, struts, 70, 11, 71, 10, 10);
        int strutsOfOne = ((1 + i) ^ v) - v + 2 + i;
        dueAct(x, i, 2, n, struts * 2 + strutsOfOne, 40, 12, 70, 11, 71, 10, 10, 70, 11, 71, 10, 10);
    }

    private static void noActs() {
        GeeseKeys x = new GeeseKeys();
        x.goose(6, 1, 0, 0);
        int[][] none = {{-1, 0}, {1, 0}, {6, 2}, {0, -1}, {0, 3}, {MIN, MAX}};
        for (int[] call : none) {
            due("30 told", x.act(0, 1, 5) == 0 ? 1 : 0, 0);
            due("30 none", x.act(call[0], call[1], 5), 0);
            due("31 no trace", x.trace(0), -1);
            due("33 no bodies", x.count(7), 0);
        }
        x.take(0, true);
        due("30 a taken one, too", x.act(0, 0, 5), 4);
        due("31 far out", x.trace(MAX), -1);
        due("31 far below", x.trace(MIN), -1);
    }

    private static void taken() {
        String[] under = {"0", "01", "02", "03", "014", "025", "036"};
        for (int kind = 0; kind < 7; kind++) {
            GeeseKeys x = new GeeseKeys();
            x.goose(kind, 0, 0, 0);
            for (int k = 0; k < 7; k++) {
                boolean is = under[kind].indexOf('0' + k) >= 0;
                due("32 kind " + kind + " for " + k, x.taken(0, k), is ? kind : -12);
            }
        }
        GeeseKeys x = new GeeseKeys();
        x.goose(0, 0, 0, 0);
        due("32 k 7", x.taken(0, 7), -2);
        due("32 k -1", x.taken(0, -1), -2);
        due("32 bad ahead of nothing", x.taken(1, 7), -2);
        due("32 goose 1", x.taken(1, 0), -11);
        due("32 goose -1", x.taken(-1, 6), -11);
    }

    private static void count() {
        GeeseKeys x = new GeeseKeys();
        x.gate(0, 1);
        x.gate(0, 1);
        x.goose(0, 0, 0, 0);
        x.goose(0, 0, 0, 0);
        x.goose(0, 0, 0, 0);
        Check.feed(x, "eat 1").fortress();
        Check.feed(x, "eat 1!");
        x.see(0, 1, 2);
        x.plan(0, 0);
        x.plan(0, 0);
        x.book(0, 0);
        x.book(0, 0);
        x.book(0, 0);
        x.act(0, 1, 1);
        int[] counts = {3, 2, 1, 1, 2, 3, 6, 2};
        for (int what = 0; what < 8; what++) {
            due("33 count " + what, x.count(what), counts[what]);
        }
        due("33 what 8", x.count(8), -2);
        due("33 what -1", x.count(-1), -2);
    }

    private static void tape() {
        GeeseKeys x = new GeeseKeys();
        due("34 tape -1", x.tape(-1, 9, 99), -1);
        due("34 tape 6", x.tape(6, 0, 1), -1);
        due("34 sort -2", x.tape(0, -2, 1), -2);
        due("34 sort 5", x.tape(0, 5, -1), -2);
        due("34 n 61", x.tape(0, 0, 61), -2);
        due("34 n far out", x.tape(0, 0, MAX), -2);
        due("34 n -1", x.tape(0, 0, -1), -14);
        due("34 n far below", x.tape(0, 4, MIN), -14);
        due("34 still nothing", x.item(0, 0, 0), -11);
        for (int sort = 0; sort < 5; sort++) {
            due("34 sixty", x.tape(5, sort, 60), 1);
            due("34 all 0", x.read(5, 0) | x.read(5, 59), 0);
            due("34 the first", x.item(5, 0, 1), 1);
            due("34 the last", x.item(5, 59, 1), 1);
            due("34 none", x.tape(5, sort, 0), 1);
            due("34 no place", x.item(5, 0, 1), -13);
        }
        x.tape(5, 3, 60);
        due("34 all 0 again", x.read(5, 59), 0);
        x.item(5, 59, 1);
        due("34 refused", x.tape(5, 3, 61), -2);
        due("34 refused", x.tape(5, 3, -1), -14);
        due("34 not changed", x.read(5, 59), 1);
        due("34 nothing", x.tape(5, -1, MIN), 1);
        due("34 nothing", x.read(5, 59), NO);
        due("34 nothing again", x.tape(5, -1, MAX), 1);
    }

    private static void dueItem(GeeseKeys x, long v, long... kept) {
        for (int sort = 0; sort < 5; sort++) {
            x.tape(sort, sort, 3);
            due("35 item", x.item(sort, 1, v), 1);
            due("36 " + v + " of sort " + sort, x.read(sort, 1), kept[sort]);
            due("36 its neighbours", x.read(sort, 0) | x.read(sort, 2), 0);
        }
    }

    private static void item() {
        GeeseKeys x = new GeeseKeys();
        dueItem(x, 0, 0, 0, 0, 0, 0);
        dueItem(x, 1, 1, 1, 1, 1, 1);
        dueItem(x, -1, -1, -1, -1, -1, 1);
        dueItem(x, 200, -56, 200, 200, 200, 1);
        dueItem(x, 256, 0, 256, 256, 256, 1);
        dueItem(x, 40000, 64, -25536, 40000, 40000, 1);
        dueItem(x, 1L << 31, 0, 0, MIN, 1L << 31, 1);
        dueItem(x, 1L << 32, 0, 0, 0, 1L << 32, 1);
        dueItem(x, Long.MIN_VALUE, 0, 0, 0, Long.MIN_VALUE, 1);
        due("35 tape -1", x.item(-1, -1, 0), -1);
        due("35 tape 6", x.item(6, 0, 0), -1);
        due("35 nothing", x.item(5, -1, 0), -11);
        due("35 place -1", x.item(0, -1, 0), -13);
        due("35 place 3", x.item(0, 3, 0), -13);
        due("35 far out", x.item(0, MAX, 0), -13);
        due("35 far below", x.item(0, MIN, 0), -13);
    }

    private static void read() {
        GeeseKeys x = new GeeseKeys();
        x.tape(0, 2, 3);
        x.item(0, 2, 7);
        due("36 item", x.read(0, 2), 7);
        due("36 tape -1", x.read(-1, 0), NO);
        due("36 tape 6", x.read(6, 0), NO);
        due("36 nothing", x.read(1, 0), NO);
        due("36 place -1", x.read(0, -1), NO);
        due("36 place 3", x.read(0, 3), NO);
        due("36 far out", x.read(0, MAX), NO);
    }

    private static void dueItems(GeeseKeys x, int tape, int... items) {
        for (int i = 0; i < items.length; i++) {
            due("37 item " + i + " of " + Arrays.toString(items), x.read(tape, i), items[i]);
        }
    }

    private static void shift() {
        GeeseKeys x = new GeeseKeys();
        x.tape(0, 1, 5);
        x.tape(1, 1, 3);
        x.tape(2, 2, 5);
        for (int i = 0; i < 5; i++) {
            x.item(0, i, i + 1);
        }
        due("37 to another", x.shift(0, 1, 1, 0, 3), 3);
        dueItems(x, 1, 2, 3, 4);
        dueItems(x, 0, 1, 2, 3, 4, 5);
        due("37 up", x.shift(0, 0, 0, 1, 4), 4);
        dueItems(x, 0, 1, 1, 2, 3, 4);
        due("37 down", x.shift(0, 2, 0, 0, 3), 3);
        dueItems(x, 0, 2, 3, 4, 3, 4);
        due("37 none at the ends", x.shift(0, 5, 1, 3, 0), 0);
        due("37 tape -1", x.shift(-1, 0, 5, 0, 0), -1);
        due("37 tape 6", x.shift(5, 0, 6, 0, 0), -1);
        due("37 nothing here", x.shift(5, -1, 0, 0, 0), -11);
        due("37 nothing there", x.shift(0, -1, 5, 0, 0), -11);
        due("37 unlike sorts", x.shift(0, -1, 2, 0, 1), -12);
        due("37 i -1", x.shift(0, -1, 1, 0, 1), -13);
        due("37 j -1", x.shift(0, 0, 1, -1, 1), -13);
        due("37 n -1", x.shift(0, 1, 1, 1, -1), -13);
        due("37 beyond its end", x.shift(0, 3, 0, 0, 3), -13);
        due("37 beyond the other's end", x.shift(0, 0, 1, 1, 3), -13);
        due("37 beyond, of none", x.shift(0, 6, 1, 0, 0), -13);
        due("37 beyond, of none", x.shift(0, 0, 1, 4, 0), -13);
        due("37 far out", x.shift(0, MAX, 1, 0, MAX), -13);
        due("37 far out", x.shift(0, 1, 1, MAX, 1), -13);
        due("37 far out", x.shift(0, 1, 1, 1, MAX), -13);
        dueItems(x, 0, 2, 3, 4, 3, 4);
        dueItems(x, 1, 2, 3, 4);
    }
}
