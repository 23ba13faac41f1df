/** Promises 18 to 26: seen, odds, plans, books. */
public final class SeenTest {
    private static final Check CHECK = new Check("SeenTest");
    private static final int MIN = Integer.MIN_VALUE, MAX = Integer.MAX_VALUE;
    private static final long NO = Long.MIN_VALUE;

    private static void due(String call, long got, long want) {
        CHECK.due(call, got, want);
    }

    public static void main(String[] args) {
        see();
        from();
        can();
        odds();
        mean();
        plan();
        ends();
        book();
        looked();
        CHECK.end();
    }

    private static void see() {
        GeeseKeys x = new GeeseKeys();
        due("18 goose 0", x.see(0, 0, 0), -1);
        x.goose(0, 0, 0, 0);
        due("18 first", x.see(0, 0, 0), 1);
        due("18 goose 1", x.see(1, 13, 0), -1);
        due("18 goose -2", x.see(-2, 0, 0), -1);
        due("18 court 8", x.see(0, 0, 8), -1);
        due("18 court -1", x.see(0, 13, -1), -1);
        due("18 n -1", x.see(0, -1, 0), -2);
        due("18 n 13", x.see(0, 13, 0), -2);
        due("18 one", x.count(3), 1);
        due("18 n 12", x.see(0, 12, 7), 2);
        due("18 the same again", x.see(0, 12, 7), 3);
        due("18 fourth", x.see(0, 1, 7), 4);
        due("18 fifth", x.see(0, 2, 7), 5);
        due("18 full", x.see(0, 3, 7), -4);
        due("18 bad ahead of full", x.see(0, 13, 7), -2);
        due("18 none then", x.see(-1, MAX, MIN), 0);
        due("18 none", x.count(3), 0);
        due("18 first again", x.see(0, 3, 7), 1);
    }

    private static void from() {
        GeeseKeys x = Check.line(Check.told("eat 0"), 3);
        Check.grains(x, 1, 2, 3, 4);
        x.goose(0, 0, 0, 0);
        x.goose(0, 0, 7, 0);
        due("19 nothing seen", x.from(0), 255);
        x.see(0, 0, 2);
        due("19 now", x.from(0), 4);
        x.see(-1, 0, 0);
        x.see(0, 2, 3);
        due("19 two hours from now", x.from(0), 2 | 4 | 8);
        due("19 the other one's place does not matter", x.from(1), 0);
        x.see(0, 1, 2);
        due("19 both", x.from(0), 2);
        x.see(1, 12, 7);
        due("19 the other is so", x.from(0), 2);
        x.see(1, 12, 6);
        due("19 the other is not so", x.from(0), 0);
        due("19 goose 2", x.from(2), -1);
        due("19 goose -1", x.from(-1), -1);
        due("19 nothing changed", x.of(0, 2), 0);
        x.see(-1, 0, 0);
        x.see(0, 12, 3);
        due("19 at hour 12", x.from(0), 15);
        x.take(0, true);
        due("19 a taken one stays", x.from(0), 8);
        x.take(0, false);
        x.pass(5);
        x.see(-1, 0, 0);
        x.see(0, 1, 2);
        x.pass(1);
        due("19 from now, whenever it was told", x.from(0), 2);
    }

    private static void can() {
        GeeseKeys x = Check.line(Check.told("eat 0"), 1);
        Check.grains(x, 5, 9);
        x.goose(1, 9, 0, 0);
        x.goose(3, 0, 1, 0);
        due("20 nothing seen", x.can(0, 0), 10);
        due("20 the least", x.can(0, 1), 0);
        x.see(0, 1, 1);
        due("20 v below 4", x.can(0, 0), 4);
        due("20 the least", x.can(0, 1), 0);
        due("20 the other's does not matter", x.can(1, 0), 0);
        x.see(-1, 0, 0);
        x.see(0, 1, 0);
        due("20 v above 3", x.can(0, 0), 6);
        due("20 the least", x.can(0, 1), 4);
        due("20 the other's does not matter", x.can(1, 0), 10);
        x.see(0, 1, 1);
        due("20 none", x.can(0, 0), 0);
        due("20 none", x.can(0, 1), -5);
        due("20 goose 2", x.can(2, 0), -1);
        due("20 goose -1", x.can(-1, 1), -1);
        due("20 what 2", x.can(0, 2), -1);
        due("20 what -1", x.can(0, -1), -1);
        due("20 nothing changed", x.of(0, 1), 9);
        GeeseKeys y = Check.line(Check.told("lure 9 c=1&v=9;eat 0"), 1);
        y.goose(0, 0, 0, 0);
        y.see(0, 12, 1);
        due("20 only 9", y.can(0, 0), 1);
        due("20 only 9", y.can(0, 1), 9);
    }

    private static void dueOdds(GeeseKeys x, int gate, int n, int above, int below) {
        due("21 above", x.odds(gate, n, 0), above);
        due("21 below", x.odds(gate, n, 1), below);
    }

    private static void odds() {
        GeeseKeys x = Check.line(Check.told("eat 0"), 3);
        x.goose(0, 0, 0, 1);
        dueOdds(x, 1, 0, 0, 1);
        dueOdds(x, 1, 1, 1, 8);
        dueOdds(x, 1, 20, 1, 8);
        due("21 gate 3", x.odds(3, 0, 0), NO);
        due("21 gate -1", x.odds(-1, 0, 0), NO);
        due("21 n 21", x.odds(0, 21, 0), NO);
        due("21 n -1", x.odds(0, -1, 0), NO);
        due("21 part 2", x.odds(0, 0, 2), NO);
        due("21 part -1", x.odds(0, 0, -1), NO);
        x.goose(0, 0, 0, 0);
        x.goose(0, 0, 3, 1);
        dueOdds(x, 0, 0, 1, 1);
        dueOdds(x, 0, 20, 1, 1);
        dueOdds(x, 1, 1, 1, 4);
        x.key(2, 2);
        x.put(2, 2);
        x.gate(2, 7);
        x.gate(2, 6);
        x.gate(2, 5);
        dueOdds(x, 2, 1, 1, 2);
        x.gate(2, 4);
        dueOdds(x, 2, 1, 3, 8);
        x.gate(3, 7);
        x.key(2, 7);
        dueOdds(x, 7, 1, 1, 4);
        x.grain(2, 99);
        x.grain(7, 95);
        dueOdds(x, 7, 1, 0, 1);
        x.grain(2, 98);
        dueOdds(x, 7, 1, 1, 8);
        due("21 nothing changed", x.told(17), 95);
    }

    private static void dueMean(GeeseKeys x, int n, int above, int below) {
        due("22 above", x.mean(n, 0), above);
        due("22 below", x.mean(n, 1), below);
    }

    private static void mean() {
        GeeseKeys x = new GeeseKeys();
        dueMean(x, 0, 5, 1);
        x.grain(0, 6);
        dueMean(x, 60, 41, 8);
        x.grain(0, 7);
        dueMean(x, 0, 21, 4);
        x.grain(0, 9);
        dueMean(x, 0, 11, 2);
        x.goose(0, 0, 0, 0);
        dueMean(x, 1, 43, 8);
        dueMean(x, 4, 5, 1);
        dueMean(x, 60, 35, 8);
        Check.grains(x, 0, 0, 0, 0, 0, 0, 0, 0);
        dueMean(x, 0, 0, 1);
        Check.grains(x, 99, 99, 99, 99, 99, 99, 99, 98);
        dueMean(x, 0, 791, 8);
        due("22 n 61", x.mean(61, 0), NO);
        due("22 n -1", x.mean(-1, 0), NO);
        due("22 part 2", x.mean(0, 2), NO);
        due("22 part -1", x.mean(0, -1), NO);
        due("22 nothing changed", x.told(10), 99);
    }

    private static void plan() {
        GeeseKeys x = new GeeseKeys();
        due("23 an hour", x.plan(0, MIN), 1);
        due("23 grain", x.plan(1, 7), 2);
        due("23 court 8", x.plan(1, 8), -1);
        due("23 court -1", x.plan(1, -1), -1);
        due("23 no goose", x.plan(2, 0), -1);
        due("23 no goose", x.plan(3, 0), -1);
        x.goose(0, 0, 0, 0);
        due("23 taken", x.plan(2, 0), 3);
        due("23 not", x.plan(3, 0), 4);
        due("23 goose 1", x.plan(2, 1), -1);
        due("23 goose -1", x.plan(3, -1), -1);
        due("23 what 4", x.plan(4, 0), -1);
        due("23 what -2", x.plan(-2, 0), -1);
        due("23 four", x.count(4), 4);
        for (int n = 5; n <= 10; n++) {
            due("23 more", x.plan(0, MAX), n);
        }
        due("23 full", x.plan(0, 0), -4);
        due("23 none ahead of full", x.plan(1, 8), -1);
        due("23 empty", x.plan(-1, MAX), 0);
        due("23 none", x.count(4), 0);
        due("23 first", x.plan(0, 0), 1);
        due("23 nothing goes yet", x.told(0), 0);
    }

    private static void ends() {
        GeeseKeys x = Check.line(new GeeseKeys(), 2);
        x.goose(0, 0, 0, 1);
        x.goose(0, 0, 7, 0);
        due("24 no plan", x.ends(0), 0);
        due("24 no plan", x.ends(1), 40);
        x.plan(1, 1);
        due("24 grain", x.ends(1), 49);
        x.plan(0, 0);
        due("24 she goes and eats", x.ends(0), 2);
        due("24 both eat", x.ends(1), 47);
        x.plan(2, 0);
        due("24 taken", x.ends(0), 0);
        x.plan(0, 0);
        due("24 one eats", x.ends(1), 46);
        x.plan(3, 0);
        due("24 not taken", x.ends(0), 2);
        x.plan(0, 0);
        due("24 both eat", x.ends(1), 44);
        due("24 what 2", x.ends(2), -1);
        due("24 what -1", x.ends(-1), -1);
        due("24 nothing changed", x.of(0, 2) + x.told(0) + x.told(4), 40);
        x.plan(-1, 0);
        x.grain(5, 95);
        x.plan(1, 5);
        due("24 99 at most", x.ends(1), 134);
        x.plan(0, 0);
        x.plan(-1, 0);
        x.plan(0, 0);
        x.plan(1, 1);
        due("24 rows in their order", x.ends(0), 0);
    }

    private static void book() {
        GeeseKeys x = new GeeseKeys();
        due("25 first", x.book(0, 0), 1);
        due("25 second", x.book(7, 99), 2);
        due("25 court 8", x.book(8, 100), -1);
        due("25 court -2", x.book(-2, 0), -1);
        due("25 grain 100", x.book(0, 100), -2);
        due("25 grain -1", x.book(0, -1), -2);
        due("25 two", x.count(5), 2);
        for (int n = 3; n <= 8; n++) {
            due("25 more", x.book(0, 5), n);
        }
        due("25 full", x.book(0, 5), -4);
        due("25 bad ahead of full", x.book(0, 100), -2);
        due("25 empty", x.book(-1, MIN), 0);
        due("25 none", x.count(5), 0);
        due("25 first", x.book(0, 0), 1);
    }

    private static void looked() {
        GeeseKeys x = new GeeseKeys();
        due("26 none", x.looked(), -5);
        x.book(3, 5);
        due("26 so", x.looked(), -5);
        x.book(3, 4);
        due("26 not so", x.looked(), 1);
        x.book(2, 5);
        x.grain(3, 4);
        due("26 the first", x.looked(), 0);
        x.book(-1, 0);
        x.book(3, 4);
        x.book(7, 5);
        x.book(0, 6);
        due("26 the third", x.looked(), 2);
        x.grain(0, 6);
        due("26 all so", x.looked(), -5);
    }
}
