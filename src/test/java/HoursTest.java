/** Promises 13 to 17: hours, ways, leading. */
public final class HoursTest {
    private static final Check CHECK = new Check("HoursTest");
    private static final int MIN = Integer.MIN_VALUE, MAX = Integer.MAX_VALUE;

    private static void due(String call, long got, long want) {
        CHECK.due(call, got, want);
    }

    public static void main(String[] args) {
        pass();
        lastHours();
        on();
        opens();
        way();
        keys();
        lead();
        CHECK.end();
    }

    private static void pass() {
        GeeseKeys x = Check.line(Check.told("eat 4"), 2);
        Check.grains(x, 5, 9, 9);
        x.goose(0, 0, 0, 0);
        x.goose(0, 0, 0, 0);
        x.goose(0, 0, 2, 0);
        x.goose(0, 0, 0, 0);
        x.take(3, true);
        due("13 one", x.pass(1), 1);
        due("13 the first goes to 9", x.of(0, 2), 1);
        due("13 the second finds 5 and stays", x.of(1, 2), 0);
        due("13 the third stays", x.of(2, 2), 2);
        due("13 the taken one stays", x.of(3, 2), 0);
        due("13 eaten once", x.told(10), 1);
        due("13 eaten there", x.told(11), 5);
        due("13 eaten there", x.told(12), 5);
        due("13 one more", x.pass(1), 2);
        due("13 the first stays where there is as much elsewhere", x.of(0, 2), 1);
        due("13 the second stays with as much", x.of(1, 2), 0);
        due("13 no grain below 0", x.told(10), 0);
        due("13 none", x.pass(0), 2);
        due("13 -1", x.pass(-1), -2);
        due("13 61", x.pass(61), -2);
        due("13 far out", x.pass(MAX), -2);
        due("13 far out", x.pass(MIN), -2);
        due("13 sixty", x.pass(60), 62);
        due("13 all eaten", x.told(10) + x.told(11) + x.told(12), 0);
        hourOfTheTests();
    }

    private static void hourOfTheTests() {
        GeeseKeys x = Check.line(Check.told("lure 9 h=2&c=1;eat 0"), 1);
        x.goose(0, 0, 0, 0);
        due("13 hours 0 and 1", x.pass(2), 2);
        due("13 not yet", x.of(0, 2), 0);
        due("13 hour 2", x.pass(1), 3);
        due("13 gone", x.of(0, 2), 1);
        GeeseKeys y = Check.line(Check.told("lure 9 g=5&c=1"), 1);
        y.goose(0, 0, 0, 0);
        y.goose(0, 0, 0, 0);
        y.pass(1);
        due("13 she goes where there is 5", y.of(0, 2), 1);
        due("13 the other finds 4", y.of(1, 2), 0);
    }

    private static void lastHours() {
        GeeseKeys x = Check.line(Check.told("lure 9 h=0&c=1;lure 9 h=9&c=0;eat 0"), 1);
        for (int n = 1; n <= 166; n++) {
            due("13 sixty", x.pass(60), 60L * n);
        }
        due("13 beyond", x.pass(40), -3);
        due("13 bad ahead of beyond", x.pass(61), -2);
        due("13 the last", x.pass(39), 9999);
        due("13 beyond", x.pass(1), -3);
        due("13 none", x.pass(0), 9999);
        x.goose(0, 0, 0, 0);
        due("14 hours beyond", x.on(1, 20), 0);
        due("14 hours beyond", x.on(2, 20), 1);
        due("14 hours beyond", x.on(12, 20), 1);
        due("14 hours beyond", x.on(11, 20), 0);
        due("12 hour", x.told(0), 9999);
    }

    private static void on() {
        GeeseKeys x = Check.line(new GeeseKeys(), 3);
        Check.grains(x, 5, 10, 20, 5);
        x.goose(0, 0, 0, 2);
        x.goose(0, 0, 7, 0);
        due("14 now", x.on(0, 0), 0);
        due("14 now", x.on(0, 20), 0);
        due("14 now", x.on(0, 12), 20);
        due("14 behind 1", x.on(1, 20), 1);
        due("14 behind 1", x.on(1, 11), 9);
        due("14 behind 2", x.on(2, 20), 2);
        due("14 behind 2", x.on(2, 12), 19);
        due("14 behind 2", x.on(2, 0), 4);
        due("14 the other", x.on(2, 21), 7);
        due("14 behind 60", x.on(60, 17), 0);
        due("14 goose 2", x.on(1, 22), -1);
        due("14 goose 5", x.on(1, 25), -1);
        int[] none = {-1, 1, 9, 18, 19, MIN, MAX};
        for (int what : none) {
            due("14 what " + what, x.on(61, what), -1);
        }
        due("14 -1", x.on(-1, 0), -2);
        due("14 61", x.on(61, 10), -2);
        due("14 61", x.on(61, 20), -2);
        due("14 nothing changed", x.of(0, 2), 0);
        due("14 nothing changed", x.told(0), 0);
        due("14 nothing changed", x.told(4), 60);
    }

    private static void opens() {
        GeeseKeys x = Check.line(new GeeseKeys(), 3);
        Check.grains(x, 5, 10, 20, 5);
        x.goose(0, 0, 0, 2);
        due("15 behind 2", x.opens(2), 2);
        due("15 never", x.opens(0), -5);
        due("15 gate 3", x.opens(3), -1);
        due("15 gate -1", x.opens(-1), -1);
        x.key(0, 0);
        due("15 now", x.opens(0), 0);
        x.take(0, true);
        due("15 taken", x.opens(0), -5);
        due("15 just", late(20).opens(1), 20);
        due("15 too late", late(21).opens(1), -5);
    }

    /** She goes to 1 in the hour in which grain of 0, from which she eats one an hour, is 1 as it begins. */
    private static GeeseKeys late(int grain) {
        GeeseKeys x = Check.line(new GeeseKeys(), 2);
        Check.grains(x, grain, 2, 0);
        x.goose(0, 0, 0, 1);
        return x;
    }

    private static void way() {
        GeeseKeys x = Check.line(Check.told("eat 0"), 3);
        x.goose(0, 0, 0, 0);
        x.goose(0, 0, 2, 1);
        due("16 there", x.way(5, 5, 0), 0);
        due("16 one", x.way(0, 1, 0), 1);
        due("16 one gate an hour", x.way(0, 2, 0), 2);
        due("16 back", x.way(2, 0, 0), 2);
        due("16 never", x.way(0, 3, 0), -5);
        due("12 far", x.told(20), 7);
        due("16 court 8", x.way(8, 0, 0), -1);
        due("16 court 8", x.way(0, 8, 0), -1);
        due("16 court -1", x.way(-1, 0, 0), -1);
        due("16 court -1", x.way(0, -1, 1), -1);
        due("16 what 2", x.way(0, 1, 2), -1);
        due("16 what -1", x.way(0, 1, -1), -1);
        due("16 just", late(14).way(1, 2, 0), 15);
        due("16 too late", late(15).way(1, 2, 0), -5);
        due("12 far, just", late(14).told(21), 6);
        due("12 far, too late", late(15).told(21), 2);
        x = Check.line(new GeeseKeys(), 2);
        Check.grains(x, 0, 0, 9);
        x.goose(0, 0, 1, 0);
        due("16 open as it begins, though she leaves", x.way(0, 1, 0), 1);
        due("16 shut later", x.way(0, 2, 0), -5);
        due("16 nothing changed", x.of(0, 2), 1);
    }

    private static void keys() {
        GeeseKeys x = Check.told("eat 0");
        x.gate(0, 1);
        x.gate(2, 3);
        x.goose(0, 0, 0, 1);
        due("16 one goose alone", x.way(0, 1, 1), -5);
        x.goose(0, 0, 7, -1);
        x.goose(0, 0, 2, 0);
        due("16 as it is", x.way(0, 1, 0), -5);
        due("16 keys", x.way(0, 1, 1), 2);
        due("16 the other gate", x.way(3, 2, 1), 2);
        due("16 no gate", x.way(0, 3, 1), -5);
        due("16 not less than 0", x.way(4, 4, 1), -5);
        x.goose(0, 0, 1, -1);
        due("16 of several the first", x.way(1, 0, 1), 2);
        x.put(0, 7);
        due("16 the only one", x.way(1, 0, 1), 23);
        due("16 nothing changed", x.of(2, 3), 0);
        x.put(0, 0);
        x.key(0, 0);
        due("16 not less", x.way(0, 1, 1), -5);
        x.key(0, -1);
        x.take(0, true);
        due("16 taken ones open nothing", x.way(0, 1, 1), 23);
        x.take(2, true);
        due("16 a taken one may give a key", x.way(0, 1, 1), 23);
        leastKeys();
    }

    /** Keys by which WAY is less than as it is, but not least, come first. */
    private static void leastKeys() {
        GeeseKeys x = Check.told("eat 0;lure 1 p=0&c=5");
        x.gate(0, 1);
        x.gate(1, 2);
        x.gate(4, 5);
        x.gate(5, 1);
        x.goose(0, 0, 4, -1);
        x.goose(0, 0, 6, 0);
        x.goose(0, 0, 0, -1);
        due("16 never as it is", x.way(0, 1, 0), -5);
        x.gate(5, 0);
        x.key(1, 3);
        x.key(2, 4);
        due("16 never as it is", x.way(5, 1, 0), -5);
        due("16 keys to be had", x.way(5, 1, 1), 1);
        x.goose(0, 0, 1, -1);
        due("16 the least, not the first", x.way(5, 1, 1), 13);
    }

    /** As many gates and geese as there can be: the last of each goes and opens as the first. */
    private static void fullHouse() {
        GeeseKeys x = Check.told("eat 1");
        for (int gate = 0; gate < 9; gate++) {
            x.gate(gate % 8, (gate + 1) % 8);
        }
        for (int goose = 0; goose < 6; goose++) {
            x.goose(goose == 5 ? 1 : 3, goose, goose + 1, goose);
        }
        x.key(5, 8);
        x.grain(7, 14);
        due("12 open", x.told(2), 31);
        due("12 shut", x.told(3), 7 << 5);
        due("14 a gander goes", x.on(1, 25), 7);
        due("14 and on to 0, that is left", x.on(11, 25), 0);
        due("14 by 8", x.on(11, 0) >> 8, 1);
        due("16 round", x.way(0, 5, 0), 5);
        due("16 round", x.way(0, 6, 0), -5);
        due("16 no keys for a gate without one", x.way(6, 7, 1), -5);
        x.key(4, 6);
        due("16 keys of the last two", x.way(6, 7, 0), -5);
        due("16 keys of the last two", x.way(6, 7, 1), 45);
        due("28 image", x.image(), 6);
        x.put(5, 3);
        due("29 undo", x.undo(), 6);
        due("29 undo", x.of(5, 2), 6);
        x = Check.line(Check.told("eat 0"), 1);
        x.goose(1, 7, 0, 0);
        x.goose(3, 0, 1, 0);
        x.grain(1, 12);
        due("14 a gander's v counts ahead", x.on(1, 20), 0);
        x.grain(1, 13);
        due("14 a gander's v counts ahead", x.on(1, 20), 1);
    }

    private static void lead() {
        GeeseKeys x = Check.line(new GeeseKeys(), 2);
        x.goose(0, 0, 0, 1);
        due("15 she eats one, and goes", x.opens(1), 2);
        due("17 lead", x.lead(1, 1), 1);
        due("17 none for a gate that is never open", x.lead(0, 9), -5);
        due("17 gate 2", x.lead(2, 9), -1);
        due("17 gate -1", x.lead(-1, 0), -1);
        due("17 n 0", x.lead(1, 0), -2);
        due("17 n 100", x.lead(1, 100), -2);
        due("17 n 99", x.lead(1, 99), 1);
        due("17 nothing changed", x.told(11), 5);
        x = Check.told("eat 0");
        x.gate(0, 2);
        x.gate(0, 1);
        x.gate(2, 1);
        x.goose(0, 0, 0, 2);
        Check.grains(x, 90, 70, 70);
        due("17 of several the first", x.lead(2, 21), 1);
        due("17 not enough", x.lead(2, 20), -5);
        x.grain(0, 99);
        due("17 99 at most", x.lead(2, 99), -5);
        x.grain(0, 98);
        x.grain(1, 10);
        due("17 the other one is enough", x.lead(2, 30), 2);
        due("17 -5 is greater than all", x.opens(2), -5);
        x.put(0, 1);
        due("17 not less than 0", x.lead(2, 30), -5);
        x = Check.line(Check.told("eat 0"), 2);
        x.goose(0, 0, 1, 0);
        x.key(0, -1);
        x.goose(0, 0, 1, 2);
        x.gate(0, 7);
        due("17 court 0", x.lead(2, 1), 0);
        fullHouse();
    }
}
