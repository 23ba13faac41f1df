/** Counts the answers that are not as due, and tells of each. */
final class Check {
    private final String test;
    private int looked = 0;
    private int wrong = 0;

    Check(String test) {
        this.test = test;
    }

    void due(String call, long got, long want) {
        looked++;
        if (got != want) {
            wrong++;
            System.out.println(test + ": " + call + " answered " + got + ", due is " + want);
        }
    }

    void isSo(String what, boolean is) {
        due(what, is ? 1 : 0, 1);
    }

    /** Feeds a text; what each feed answers is not looked at here. */
    static GeeseKeys feed(GeeseKeys x, String text) {
        for (int i = 0; i < text.length(); i++) {
            x.feed(text.charAt(i));
        }
        return x;
    }

    /** A new object whose fortress is told by a text. */
    static GeeseKeys told(String text) {
        GeeseKeys x = feed(new GeeseKeys(), text);
        int number = x.fortress();
        if (number != 0) {
            throw new IllegalStateException(text + " is no fortress: " + number);
        }
        return x;
    }

    /** A new object with gates 0-1, 1-2, and so on. */
    static GeeseKeys line(GeeseKeys x, int gates) {
        for (int gate = 0; gate < gates; gate++) {
            x.gate(gate, gate + 1);
        }
        return x;
    }

    static void grains(GeeseKeys x, int... grains) {
        for (int court = 0; court < grains.length; court++) {
            x.grain(court, grains[court]);
        }
    }

    void end() {
        System.out.println(looked + " answers looked at, " + wrong + " not as due");
        if (wrong != 0 || looked == 0) {
            System.exit(1);
        }
    }
}
