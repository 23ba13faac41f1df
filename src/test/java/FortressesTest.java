/** Promises 1 to 12: a new object, gates, geese, fortresses. */
public final class FortressesTest {
    private static final Check CHECK = new Check("FortressesTest");
    private static final int MIN = Integer.MIN_VALUE, MAX = Integer.MAX_VALUE;

    private static void due(String call, long got, long want) {
        CHECK.due(call, got, want);
    }

    public static void main(String[] args) {
        newObject();
        gates();
        geese();
        what();
        pulls();
        goals();
        keysAndPlaces();
        grains();
        rows();
        feeds();
        faults();
        fortresses();
        sums();
        told();
        CHECK.end();
    }

    private static void newObject() {
        GeeseKeys x = new GeeseKeys();
        for (int what = 0; what < 8; what++) {
            due("1 count(" + what + ")", x.count(what), 0);
        }
        due("1 hour", x.told(0), 0);
        due("1 eat without a fortress", x.told(1), 1);
        due("1 open", x.told(2), 0);
        due("1 shut", x.told(3), 0);
        for (int court = 0; court < 8; court++) {
            due("1 grain", x.told(10 + court), 5);
            due("1 far", x.told(20 + court), 1 << court);
        }
        due("1 no image", x.undo(), -3);
        due("1 no trace", x.trace(0), -1);
        due("1 no goose", x.of(0, 0), -10001);
        for (int tape = 0; tape < 6; tape++) {
            due("1 empty tape", x.item(tape, 0, 1), -11);
        }
    }

    private static void gates() {
        GeeseKeys x = new GeeseKeys();
        due("2 court below 0", x.gate(-1, 0), -1);
        due("2 court 8", x.gate(0, 8), -1);
        due("2 both none", x.gate(8, 8), -1);
        due("2 far out", x.gate(MIN, MAX), -1);
        due("2 the same", x.gate(3, 3), -2);
        due("2 none came", x.count(1), 0);
        due("2 first", x.gate(0, 7), 0);
        for (int gate = 1; gate < 9; gate++) {
            due("2 the same courts again", x.gate(7, 0), gate);
        }
        due("2 full", x.gate(0, 1), -4);
        due("2 none ahead of full", x.gate(0, 9), -1);
        due("2 bad ahead of full", x.gate(1, 1), -2);
        due("2 nine", x.count(1), 9);
    }

    private static void geese() {
        GeeseKeys x = new GeeseKeys();
        due("3 kind -1", x.goose(-1, 0, 0, 0), -1);
        due("3 kind 7", x.goose(7, 0, 0, 0), -1);
        due("3 court -1", x.goose(0, 0, -1, 0), -1);
        due("3 court 8", x.goose(0, 0, 8, 0), -1);
        due("3 key -2", x.goose(0, 0, 0, -2), -1);
        due("3 key 9", x.goose(0, 0, 0, 9), -1);
        due("3 v -1", x.goose(0, -1, 0, 0), -2);
        due("3 v 10", x.goose(0, 10, 0, 0), -2);
        due("3 none ahead of bad", x.goose(0, 10, 0, 9), -1);
        due("3 none came", x.count(0), 0);
        due("3 first", x.goose(6, 9, 7, 8), 0);
        due("3 second", x.goose(0, 0, 0, -1), 1);
        due("3 not taken at first", x.of(0, 4), 0);
        for (int goose = 2; goose < 6; goose++) {
            due("3 more", x.goose(goose, 1, 1, 1), goose);
        }
        due("3 full", x.goose(0, 0, 0, 0), -4);
        due("3 none ahead of full", x.goose(0, 0, 0, 9), -1);
        due("3 bad ahead of full", x.goose(0, 10, 0, 0), -2);
        due("3 six", x.count(0), 6);
    }

    private static void what() {
        GeeseKeys x = new GeeseKeys();
        x.goose(6, 9, 7, 8);
        x.goose(3, 0, 2, -1);
        due("4 kind", x.of(0, 0), 6);
        due("4 v", x.of(0, 1), 9);
        due("4 court", x.of(0, 2), 7);
        due("4 key", x.of(0, 3), 8);
        due("4 no key", x.of(1, 3), -5);
        due("4 not taken", x.of(1, 4), 0);
        x.take(1, true);
        due("4 taken", x.of(1, 4), 1);
        due("4 stays", x.of(1, 5), 2);
        int[] none = {-1, 6, 7, 8, 9, 18, 20, MIN, MAX};
        for (int what : none) {
            due("4 what " + what, x.of(0, what), -10001);
        }
        due("4 goose -1", x.of(-1, 0), -10001);
        due("4 goose 2", x.of(2, 0), -10001);
        due("4 goose 6", x.of(6, 12), -10001);
    }

    private static GeeseKeys alone(int kind, int v, int court, int key) {
        GeeseKeys x = Check.told("scare 10 c=2;scare 10 c=3;lure 4 c=4");
        Check.grains(x, 20, 9, 3, 1, 7, 0, 1, 99);
        x.gate(2, 3);
        x.goose(kind, v, court, key);
        return x;
    }

    private static void duePulls(String name, GeeseKeys x, int goose, int... pulls) {
        for (int court = 0; court < 8; court++) {
            due("4 " + name + " of court " + court, x.of(goose, 10 + court), pulls[court]);
        }
    }

    private static void pulls() {
        duePulls("goose", alone(0, 9, 4, 0), 0, 20, 9, -7, -9, 11, 0, 1, 99);
        duePulls("gander alone", alone(1, 9, 4, 0), 0, 20, 9, -7, -9, 11, 0, 1, 99);
        duePulls("gosling", alone(2, 9, 4, 0), 0, 10, 4, -3, -4, 5, 0, 0, 49);
        duePulls("old", alone(3, 9, 4, 0), 0, 0, 0, 0, 0, 11, 0, 0, 0);
        duePulls("old, scared", alone(3, 9, 2, 0), 0, 0, 0, -7, 0, 0, 0, 0, 0);
        duePulls("sentry", alone(4, 9, 4, 0), 0, 20, 9, 3, 1, 11, 0, 1, 99);
        duePulls("sentry whose gate is not there", alone(4, 9, 4, 1), 0, 20, 9, -7, -9, 11, 0, 1, 99);
        duePulls("sentry without a key", alone(4, 9, 4, -1), 0, 20, 9, -7, -9, 11, 0, 1, 99);
        duePulls("larder", alone(5, 9, 4, 0), 0, 15, 4, -3, -4, 5, 0, 0, 49);
        GeeseKeys x = alone(6, 9, 4, 0);
        duePulls("told without a row", x, 0, 0, 0, 0, 0, 11, 0, 0, 0);
        x.row(0, 0, 1);
        x.row(0, 1, 2);
        x.row(0, 2, 3);
        x.row(0, 3, 9);
        duePulls("told", x, 0, 1, 2, 3, 9, 12, 2, 3, 9);
        x = alone(4, 9, 4, 1);
        x.gate(1, 5);
        duePulls("sentry whose gate came", x, 0, 20, 19, -7, -9, 11, 10, 1, 99);
        pullsOfCompany();
    }

    private static void pullsOfCompany() {
        GeeseKeys x = alone(1, 6, 4, 0);
        x.goose(0, 0, 1, 0);
        x.goose(4, 8, 4, 0);
        duePulls("gander", x, 0, 20, 3, -7, -9, 5, 0, 1, 99);
        duePulls("sentry", x, 2, 20, 1, 3, 1, 3, 0, 1, 99);
        duePulls("goose", x, 1, 20, 9, -7, -9, 11, 0, 1, 99);
        x.goose(0, 0, 1, 0);
        duePulls("gander, of two once", x, 0, 20, 3, -7, -9, 5, 0, 1, 99);
        x.take(1, true);
        x.take(3, true);
        duePulls("gander, taken ones do not matter", x, 0, 20, 9, -7, -9, 5, 0, 1, 99);
        x.take(0, true);
        duePulls("sentry, taken ones do not matter", x, 2, 20, 9, 3, 1, 11, 0, 1, 99);
        duePulls("taken gander", x, 0, 20, 9, -7, -9, 5, 0, 1, 99);
    }

    private static void goals() {
        GeeseKeys x = new GeeseKeys();
        x.goose(0, 0, 3, -1);
        Check.grains(x, 9, 9, 9, 5, 9, 9, 9, 9);
        due("4 no gates, she stays", x.of(0, 5), 3);
        x.gate(3, 6);
        due("4 through a gate that is not open", x.of(0, 5), 6);
        x.gate(1, 3);
        due("4 of several the least court", x.of(0, 5), 1);
        x.gate(0, 1);
        due("4 only through the gates of hers", x.of(0, 5), 1);
        x.grain(6, 10);
        due("4 the greatest", x.of(0, 5), 6);
        x.grain(3, 9);
        due("4 more than where she is", x.of(0, 5), 6);
        x.grain(3, 10);
        due("4 no more than where she is", x.of(0, 5), 3);
        x.grain(3, 0);
        x.take(0, true);
        due("4 taken ones, too", x.of(0, 5), 6);
        due("4 asking moves nobody", x.of(0, 2), 3);
        x = Check.line(Check.told("scare 90 c<2"), 2);
        x.goose(0, 0, 1, 0);
        Check.grains(x, 9, 5, 0);
        due("4 where pull is below 0", x.of(0, 5), 2);
        x.put(0, 0);
        due("4 both below 0", x.of(0, 5), 0);
    }

    private static void keysAndPlaces() {
        GeeseKeys x = new GeeseKeys();
        x.goose(0, 0, 3, 4);
        due("5 key", x.key(0, 8), 4);
        due("5 no key", x.key(0, -1), 8);
        due("5 had none", x.key(0, 0), -5);
        due("5 has it", x.of(0, 3), 0);
        due("5 key 9", x.key(0, 9), -1);
        due("5 key -2", x.key(0, -2), -1);
        due("5 goose 1", x.key(1, 0), -1);
        due("5 goose -1", x.key(-1, 0), -1);
        due("5 changed nothing", x.of(0, 3), 0);
        due("6 put", x.put(0, 7), 3);
        due("6 again", x.put(0, 0), 7);
        due("6 court 8", x.put(0, 8), -1);
        due("6 court -1", x.put(0, -1), -1);
        due("6 goose 1", x.put(1, 0), -1);
        due("6 goose -1", x.put(-1, 0), -1);
        due("6 is there", x.of(0, 2), 0);
        due("7 take", x.take(0, true), 0);
        due("7 again", x.take(0, true), 1);
        due("7 is", x.of(0, 4), 1);
        due("7 not", x.take(0, false), 1);
        due("7 not again", x.take(0, false), 0);
        due("7 is not", x.of(0, 4), 0);
        due("7 goose 1", x.take(1, true), -1);
        due("7 goose -1", x.take(-1, false), -1);
        x.take(0, true);
        due("6 a taken one comes, too", x.put(0, 5), 0);
        due("5 a taken one has a key, too", x.key(0, 3), 0);
    }

    private static void grains() {
        GeeseKeys x = new GeeseKeys();
        due("8 grain", x.grain(0, 99), 5);
        due("8 again", x.grain(0, 0), 99);
        due("8 court 7", x.grain(7, 1), 5);
        due("8 court 8", x.grain(8, 1), -1);
        due("8 court -1", x.grain(-1, 100), -1);
        due("8 100", x.grain(1, 100), -2);
        due("8 -1", x.grain(1, -1), -2);
        due("8 is", x.told(10), 0);
        due("8 is not changed", x.told(11), 5);
        due("8 is", x.told(17), 1);
    }

    private static void rows() {
        GeeseKeys x = new GeeseKeys();
        x.goose(6, 0, 3, 4);
        x.goose(3, 0, 3, 4);
        due("9 row", x.row(0, 3, 9), 0);
        due("9 again", x.row(0, 3, 4), 9);
        due("9 part 0", x.row(0, 0, 1), 0);
        due("9 part 4", x.row(0, 4, 1), -1);
        due("9 part -1", x.row(0, -1, 1), -1);
        due("9 goose 2", x.row(2, 0, 1), -1);
        due("9 goose -1", x.row(-1, 0, 10), -1);
        due("9 n 10", x.row(0, 0, 10), -2);
        due("9 n -1", x.row(0, 0, -1), -2);
        due("9 another kind", x.row(1, 0, 1), -3);
        due("9 bad ahead of another kind", x.row(1, 0, 10), -2);
        due("9 not changed", x.row(0, 0, 1), 1);
    }

    private static void feeds() {
        GeeseKeys x = new GeeseKeys();
        due("10 below 0", x.feed(-1), -2);
        due("10 128", x.feed(128), -2);
        due("10 0", x.feed(0), 1);
        due("10 127", x.feed(127), 2);
        for (int n = 3; n <= 100; n++) {
            due("10 more", x.feed(101), n);
        }
        due("10 full", x.feed(101), -4);
        due("10 bad ahead of full", x.feed(128), -2);
        due("10 a hundred", x.count(6), 100);
        due("11 fault at 0", x.fortress(), -10);
        due("10 empty", x.feed(101), 1);
    }

    private static void dueFault(String text, int fault) {
        GeeseKeys x = Check.feed(new GeeseKeys(), text);
        due("11 " + text, x.fortress(), -10 - fault);
        due("11 text empty behind " + text, x.count(6), 0);
        due("11 none came by " + text, x.count(2), 0);
    }

    private static void dueNone(String text) {
        GeeseKeys x = Check.feed(new GeeseKeys(), text);
        due("11 " + text, x.fortress(), 0);
        due("11 text empty behind " + text, x.count(6), 0);
        due("11 came by " + text, x.count(2), 1);
    }

    private static void faults() {
        String[] none = {"eat 0", "eat 99", "eat 05", "lure 1 p=1", "lure 12 k<34", "scare 0 v>9", "lure 1 c=1&g=1|h=1",
            "lure 1 !p=1", "lure 1 !!!!p=1", "lure 1 ((((p=1))))", "lure 1 !(!(p=1))", "lure 1 (p=1)&(((((p=1))))".substring(0, 12),
            "lure 1 !p=1&!!!!p=1|((((p=1))))", "eat 1;eat 2;eat 3;eat 4;eat 5;eat 6;eat 7;eat 8;eat 9;eat 10"};
        for (String text : none) {
            dueNone(text);
        }
        dueFault("", 0);
        dueFault(" eat 1", 0);
        dueFault(";", 0);
        dueFault("Eat 1", 0);
        dueFault("eat", 3);
        dueFault("eat1", 3);
        dueFault("eat ", 4);
        dueFault("eat  1", 4);
        dueFault("eat 123", 6);
        dueFault("eat 1 ", 5);
        dueFault("eat 1;", 6);
        dueFault("eat 1;;", 6);
        dueFault("eat 1; eat 1", 6);
        dueFault("eat 1p=1", 5);
        dueFault("lurk", 3);
        dueFault("scary", 4);
        dueFault("lure 1", 6);
        dueFault("lure 1;", 6);
        dueFault("lure 100 p=1", 7);
        dueFault("lure 1p=1", 6);
        dueFault("lure -1 p=1", 5);
        dueFault("lure 1 ", 7);
        dueFault("lure 1  p=1", 7);
        dueFault("lure 1 q=1", 7);
        dueFault("lure 1 pp", 8);
        dueFault("lure 1 p!1", 8);
        dueFault("lure 1 p==1", 9);
        dueFault("lure 1 p=", 9);
        dueFault("lure 1 p=123", 11);
        dueFault("lure 1 p=1 ", 10);
        dueFault("lure 1 p=1&", 11);
        dueFault("lure 1 p=1||p=1", 11);
        dueFault("lure 1 p=1)", 10);
        dueFault("lure 1 (p=1", 11);
        dueFault("lure 1 (p=1;", 11);
        dueFault("lure 1 ()", 8);
        dueFault("lure 1 !&", 8);
        dueFault("scare 1 (((((p=1)))))", 12);
        dueFault("scare 1 !!!!!p=1", 12);
        dueFault("scare 1 !(!(!p=1))", 12);
        dueFault("scare 1 ((((!p=1))))", 12);
        dueFault("eat 1;eat 2;eat 3;eat 4;eat 5;eat 6;eat 7;eat 8;eat 9;eat 1;eat 1", 59);
        dueFault("eat 1;eat 2;eat 3;eat 4;eat 5;eat 6;eat 7;eat 8;eat 9;eat 1 ", 59);
        StringBuilder many = new StringBuilder("lure 1 p=1");
        while (many.length() < 98) {
            many.append("&p=1");
        }
        dueNone(many.toString());
        dueFault(many + "|", 99);
        dueFault(many + "&p", 100);
    }

    private static void fortresses() {
        GeeseKeys x = Check.told("eat 7");
        due("11 fault", Check.feed(x, "eat 8 ").fortress(), -15);
        due("11 the one that held holds", x.told(1), 7);
        GeeseKeys y = Check.feed(new GeeseKeys(), "eat 8;lure 9 p=0;!");
        y.goose(0, 0, 0, 0);
        due("11 fault", y.fortress(), -27);
        due("11 nothing of it holds", y.told(1), 1);
        due("11 nothing of it holds", Check.feed(y, "lure 2 c=1").fortress(), 0);
        due("11 nothing of it holds", y.told(1), 1);
        due("11 nothing of it holds", y.of(0, 10), 5);
        for (int number = 1; number < 6; number++) {
            due("11 more", Check.feed(x, "eat " + number).fortress(), number);
            due("11 the newest holds", x.told(1), number);
        }
        y = Check.feed(new GeeseKeys(), "lure 1 p=12&p=1)");
        due("11 fault", y.fortress(), -25);
        due("11 nothing of the text ahead", Check.feed(y, "lure 1 p=12").fortress(), 0);
        due("11 nothing of the text ahead", Check.feed(y, "lure 1 p=1").fortress(), 1);
        due("11 nothing of the text ahead", Check.feed(y, "lure 1 ").fortress(), -17);
        due("11 nothing of the text ahead", Check.feed(y, "eat 1").fortress(), 2);
        due("11 nothing of the text ahead", y.told(1), 1);
        due("11 six", x.count(2), 6);
        Check.feed(x, "eat 9");
        due("11 full", x.fortress(), -4);
        due("11 the text stays", x.count(6), 5);
        due("11 full ahead of a fault", Check.feed(x, "!").fortress(), -4);
        due("11 the text stays", x.count(6), 6);
        due("11 the newest holds", x.told(1), 5);
    }

    /** Each letter and sign: goose 1 (gosling 2 is told by k), v 3, court 4 with grain 6, hour 15. */
    private static void sums() {
        String[] texts = {"p=1", "k=1", "v=3", "c=4", "g=6", "h=5"};
        for (String text : texts) {
            char letter = text.charAt(0);
            int value = text.charAt(2) - '0';
            for (int number = value - 1; number <= value + 1; number++) {
                dueSum(letter + "=" + number, number == value);
                dueSum(letter + "<" + number, value < number);
                dueSum(letter + ">" + number, value > number);
            }
        }
        dueSum("h=15", false);
        dueSum("p<2&p>0", true);
        dueSum("p<2&p>0&v=3", true);
        dueSum("p>0&p<2", true);
        dueSum("p<2|p>1", true);
        dueSum("p>0|p<1", true);
        dueSum("v=3&(p<2|p<1)&p>0", true);
        dueSum("!p=1", false);
        dueSum("!!p=1", true);
        dueSum("p=1|p=1&p=2", true);
        dueSum("(p=1|p=1)&p=2", false);
        dueSum("p=2&p=1|p=1", true);
        dueSum("p=2&(p=1|p=1)", false);
        dueSum("!p=2&p=1", true);
        dueSum("!p=1|p=1", true);
        dueSum("!(p=1|p=2)", false);
        dueSum("!(p=1&p=2)", true);
        dueSum("p=2|p=2|p=1", true);
        dueSum("p=1&p=1&p=2", false);
        dueSum("p=2|!(v=3&!(c=5|g=7))|p=3", false);
        dueSum("p=2|!(v=3&!(c=5|g=6))|p=3", true);
        GeeseKeys x = Check.told("lure 20 c=4;scare 3 v<9;lure 1 p=1;eat 3;scare 50 c=3;eat 0;lure 99 c=7");
        x.goose(0, 9, 0, 0);
        x.goose(0, 3, 0, 0);
        due("4 all together", x.of(1, 14), 5 + 20 - 3 + 1);
        due("4 below 0", x.of(1, 13), 5 - 3 + 1 - 50);
        due("4 another goose", x.of(0, 14), 25);
        due("12 the last eat", x.told(1), 0);
    }

    private static void dueSum(String text, boolean is) {
        GeeseKeys x = Check.told("lure 30 " + text + ";eat 0;scare 20 " + text);
        x.pass(15);
        x.goose(0, 0, 0, 0);
        x.goose(1, 3, 0, 0);
        x.grain(4, 6);
        due("4 sum by " + text, x.of(1, 14), is ? 16 : 6);
    }

    private static void told() {
        GeeseKeys x = Check.line(Check.told("eat 0"), 4);
        x.goose(0, 0, 1, 1);
        due("12 open at one end", x.told(2), 2);
        x.put(0, 2);
        due("12 open at the other end", x.told(2), 2);
        x.put(0, 3);
        due("12 not at an end", x.told(2), 0);
        x.goose(0, 0, 0, 0);
        x.goose(0, 0, 1, 0);
        x.goose(0, 0, 4, 3);
        due("12 two gates", x.told(2), 9);
        due("12 shut", x.told(3), 6);
        x.take(1, true);
        due("12 by the other one", x.told(2), 9);
        x.take(2, true);
        due("12 taken ones open nothing", x.told(2), 8);
        due("12 shut", x.told(3), 7);
        x.goose(0, 0, 0, 8);
        due("12 a key whose gate is not there", x.told(2), 8);
        due("12 far", x.told(23), 24);
        due("12 far", x.told(24), 24);
        due("12 not far", x.told(22), 4);
        x.grain(3, 9);
        due("12 all grain", x.told(4), 44);
        due("12 grain", x.told(13), 9);
        int[] none = {-1, 5, 9, 18, 19, 28, MIN, MAX};
        for (int what : none) {
            due("12 what " + what, x.told(what), -1);
        }
        x.pass(4);
        due("12 hour", x.told(0), 4);
        shutBy(20, 0);
        shutBy(21, 2);
    }

    /** The goose at 0 eats one an hour, and goes to 1, where the key is for, when there is less than 2. */
    private static void shutBy(int grain, int shut) {
        GeeseKeys x = Check.line(new GeeseKeys(), 2);
        Check.grains(x, grain, 2, 0);
        x.goose(0, 0, 0, 1);
        x.goose(0, 0, 7, 0);
        due("12 shut with " + grain, x.told(3), 1 | shut);
        due("12 nothing is changed", x.told(10), grain);
    }
}
