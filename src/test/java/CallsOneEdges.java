/** The edges that promises 1 to 17 name, call by call: a new object, gates, geese, fortresses, hours, ways. */
final class CallsOneEdges {
    private static final String NONE = "NONE", BAD = "BAD", STATE = "STATE", IS_FULL = "FULL";

    private final Edges edges;
    private final Twins twins;

    private CallsOneEdges(Edges edges, Twins twins) {
        this.edges = edges;
        this.twins = twins;
    }

    static void run(Edges edges, Twins twins) {
        CallsOneEdges calls = new CallsOneEdges(edges, twins);
        calls.newObject();
        calls.gate();
        calls.goose();
        calls.of();
        calls.key();
        calls.putTake();
        calls.grain();
        calls.row();
        calls.feed();
        calls.fortress();
        calls.told();
        calls.pass();
        calls.on();
        calls.opens();
        calls.way();
        calls.lead();
    }

    private void refused(int promise, String sentence, String base, String calls, String answer) {
        twins.refused(edges.named(promise, sentence), base, calls, answer);
    }

    private void newObject() {
        edges.edge(1, "No GATES, no GEESE, no FORTRESS.", """
            count {0 .. 7} -> 0
            told 0 -> 0
            told 1 -> 1
            told {2 3} -> 0
            told 4 -> 40
            of 0 0 -> -10001
            opens 0 -> NONE
            undo -> STATE
            fortress -> -10
            looked -> -5
            trace 0 -> NONE
            """, "510 * pass 0\ngate 0 1 -> 0\ncount 1 -> 1", "100 * feed 33\n400 * pass 0\n11 * feed 33 -> FULL\nfortress -> -10");
    }

    private void gate() {
        edges.edge(2, "A GATE between two COURTS: its number.", "gate 0 1 -> 0\ngate 7 6 -> 1\ngate 0 7 -> 2\ngate 0 1 -> 3\ncount 1 -> 4");
        String none = "NONE: courts;";
        refused(2, none, Twins.NEW, "gate {-1 8 MIN MAX} 0\ngate 0 {-1 8 MIN MAX}\ngate -1 -1\ngate 8 8\ngate MAX MIN", NONE);
        refused(2, none, Twins.SOME, "gate {-1 8 MIN MAX} {0 7 8}\ngate {0 7} {-1 8 MIN MAX}", NONE);
        refused(2, none, Twins.FULL, "gate {-1 8} {0 8}\ngate 7 {-1 8}", NONE);
        String bad = "BAD: one is both;";
        refused(2, bad, Twins.SOME, "gate 0 0\ngate 3 3\ngate 7 7", BAD);
        refused(2, bad, Twins.FULL, "gate 0 0\ngate 7 7", BAD);
        refused(2, "FULL: 9.", Twins.FULL, "gate 0 1\ngate 7 6\ngate 3 4", IS_FULL);
        edges.edge(2, "FULL: 9.", "8 * gate 0 1 -> 7\ngate 7 6 -> 8\ngate 7 6 -> FULL\ncount 1 -> 9\nundo -> STATE",
            "8 * gate 0 1\nimage\ngate 2 3 -> 8\ngate 2 3 -> FULL\nundo\ngate 4 5 -> 8\ngate 4 5 -> FULL\ngoose 3 0 5 8\ntold 2 -> 256");
    }

    private void goose() {
        edges.edge(3, "A GOOSE: her number.", "goose {0 .. 5} 0 0 0\ncount 0 -> 6", "goose 6 9 7 8 -> 0\ngoose 0 0 0 -1 -> 1");
        String none = "NONE: kind, court, key (0 .. 8; -1: none);";
        refused(3, none, Twins.SOME, """
            goose {-1 7 MIN MAX} 0 0 0
            goose 0 0 {-1 8 MIN MAX} 0
            goose 0 0 0 {-2 9 MIN MAX}
            goose {-1 7} {-1 10} 0 0
            goose 0 {-1 10} {-1 8} 0
            goose 0 {-1 10} 0 {-2 9}
            """, NONE);
        refused(3, none, Twins.FULL, "goose {-1 7} {0 10} 0 0\ngoose 0 {0 10} 8 0\ngoose 0 {0 10} 0 9", NONE);
        edges.edge(3, none, "goose 0 0 0 0 -> 0\ngoose 6 0 7 8 -> 1\ngoose 6 0 7 -1 -> 2\nof 0 3 -> 0\nof 1 3 -> 8\nof 2 3 -> -5");
        String bad = "BAD: v;";
        refused(3, bad, Twins.SOME, "goose {0 6} {-1 10 MIN MAX} {0 7} 0", BAD);
        refused(3, bad, Twins.FULL, "goose 0 {-1 10} 0 0", BAD);
        edges.edge(3, bad, "goose 0 0 0 0 -> 0\ngoose 0 9 0 0 -> 1\nof 0 1 -> 0\nof 1 1 -> 9");
        refused(3, "FULL: 6.", Twins.FULL, "goose 0 0 0 0\ngoose 6 9 7 8\ngoose 3 5 1 -1", IS_FULL);
        edges.edge(3, "FULL: 6.", "5 * goose 0 0 0 0 -> 4\ngoose 6 0 0 0 -> 5\ngoose 0 0 0 0 -> FULL\ncount 0 -> 6",
            "4 * goose 0 0 0 0\nimage\n2 * goose 6 9 7 8 -> 5\nrow 5 {0 3} 9\ntake 5 true\nundo -> 4\ngoose 6 1 2 3 -> 4\ngoose 6 0 1 -1 -> 5\n"
                + "of 5 4 -> 0\nof 5 2 -> 1\nof 5 3 -> -5\nrow 5 {0 3} 0 -> 0\ngoose 0 0 0 0 -> FULL");
    }

    private void of() {
        String whole = "Of a GOOSE what 0 KIND, 1 v, 2 COURT, 3 KEY (-5: none), 4 whether she is TAKEN, 5 where she would go now (her COURT,"
            + " if she stays; TAKEN ones, too), 10 and c PULL of COURT c.";
        edges.edge(4, whole, """
            goose 6 9 7 8
            goose 0 0 0 -1
            of 0 0 -> 6
            of 0 1 -> 9
            of 0 2 -> 7
            of 0 3 -> 8
            of 0 4 -> 0
            of 0 5 -> 7
            of 0 10 -> 0
            of 0 17 -> 5
            of 1 0 -> 0
            of 1 1 -> 0
            of 1 2 -> 0
            of 1 3 -> -5
            of 1 5 -> 0
            gate 0 7
            grain 7 6
            of 1 5 -> 7
            take 1 true
            of 1 4 -> 1
            of 1 5 -> 7
            of 1 2 -> 0
            of 1 17 -> 6
            pass 1
            of 1 2 -> 0
            """);
        refused(4, whole, Twins.SOME, "of {0 1 2} {0 .. 5}\nof {0 1 2} {10 .. 17}", null);
        String none = "-10001: NONE.";
        refused(4, none, Twins.SOME, "of {-1 3 6 MIN MAX} {0 10 6}\nof {0 2} {-1 6 9 18 20 MIN MAX}", "-10001");
        refused(4, none, Twins.NEW, "of 0 {0 17}", "-10001");
        refused(4, none, Twins.FULL, "of 6 0\nof 5 {6 9 18}", "-10001");
    }

    private void key() {
        String whole = "A GOOSE has a KEY (0 .. 8; -1: none): which she had (-5: none).";
        edges.edge(5, whole, """
            goose 0 0 0 -1
            key 0 0 -> -5
            key 0 8 -> 0
            key 0 -1 -> 8
            key 0 -1 -> -5
            of 0 3 -> -5
            key 0 4 -> -5
            key 0 4 -> 4
            take 0 true
            key 0 5 -> 4
            of 0 3 -> 5
            """);
        String none = "which she had (-5: none). NONE.";
        refused(5, none, Twins.SOME, "key {-1 3 MIN MAX} {0 -1}\nkey {0 2 3} {-2 9 MIN MAX}", NONE);
        refused(5, none, Twins.FULL, "key 6 0\nkey 5 {-2 9}", NONE);
        refused(5, none, Twins.NEW, "key {0 -1} 0", NONE);
        twins.same(edges.named(5, whole), Twins.SOME + "key 0 8 -> 0\nkey 0 0 -> 8\nkey 2 -1 -> 5\nkey 2 5 -> -5\n", Twins.SOME);
    }

    private void putTake() {
        String put = "A GOOSE comes to a COURT: where she was.";
        edges.edge(6, put, "goose 0 0 3 0\nput 0 0 -> 3\nput 0 7 -> 0\nput 0 7 -> 7\ntake 0 true\nput 0 1 -> 7\nof 0 2 -> 1\ntold {10 .. 17} -> 5");
        refused(6, "where she was. NONE.", Twins.SOME, "put {-1 3 6 MIN MAX} 0\nput {0 2 3} {-1 8 MIN MAX}", NONE);
        refused(6, "where she was. NONE.", Twins.NEW, "put 0 0", NONE);
        twins.same(edges.named(6, put), Twins.SOME + "put 0 7 -> 2\nput 0 2 -> 7\n", Twins.SOME);
        String take = "A GOOSE is TAKEN, or not: whether she was.";
        edges.edge(7, take, """
            goose 0 0 3 0
            take 0 false -> 0
            take 0 true -> 0
            take 0 true -> 1
            of 0 4 -> 1
            pass 1
            told 13 -> 5
            take 0 false -> 1
            of 0 4 -> 0
            pass 1
            told 13 -> 4
            """);
        refused(7, "whether she was. NONE.", Twins.SOME, "take {-1 3 6 MIN MAX} {true false}", NONE);
        refused(7, "whether she was. NONE.", Twins.NEW, "take 0 true", NONE);
        twins.same(edges.named(7, take), Twins.SOME + "take 0 true -> 0\ntake 0 false -> 1\ntake 1 true -> 1\n", Twins.SOME);
    }

    private void grain() {
        String whole = "GRAIN of a COURT becomes n (0 .. 99): what it was.";
        edges.edge(8, whole, "grain {0 .. 7} 0 -> 5\ngrain {0 .. 7} 99 -> 0\ngrain 0 1 -> 99\ngrain 7 98 -> 99\ntold 10 -> 1\ntold 17 -> 98\ntold 16 -> 99");
        String wrong = "what it was. NONE; BAD.";
        refused(8, wrong, Twins.SOME, "grain {-1 8 MIN MAX} {0 -1 100}", NONE);
        refused(8, wrong, Twins.SOME, "grain {0 4 7} {-1 100 MIN MAX}", BAD);
        twins.same(edges.named(8, whole), Twins.SOME + "grain 4 0 -> 44\ngrain 4 44 -> 0\n", Twins.SOME);
    }

    private void row() {
        String whole = "The ROW of a TOLD one becomes n (0 .. 9) for COURTS modulo 4 being part: what it was.";
        edges.edge(9, whole, """
            goose 6 0 0 -1
            row 0 {0 1 2 3} 9 -> 0
            row 0 {0 1 2 3} 0 -> 9
            row 0 3 1 -> 0
            of 0 {13 17} -> 1
            of 0 {11 12 14 15 16} -> 0
            of 0 10 -> 5
            row 0 0 4
            of 0 10 -> 9
            of 0 14 -> 4
            """);
        String wrong = "NONE: goose, part; BAD; STATE: another KIND.";
        refused(9, wrong, Twins.SOME, "row {-1 3 6 MIN MAX} 0 {0 10}\nrow {0 1 2} {-1 4 MIN MAX} {0 -1 10}", NONE);
        refused(9, wrong, Twins.SOME, "row {0 1 2} {0 3} {-1 10 MIN MAX}", BAD);
        refused(9, wrong, Twins.SOME, "row {0 2} {0 3} {0 9}", STATE);
        refused(9, wrong, Twins.FULL, "row {0 1 2 3 4} 1 1", STATE);
        refused(9, wrong, Twins.NEW, "row 0 0 0", NONE);
    }

    private void feed() {
        String whole = "A sign (0 .. 127) comes behind THE TEXT's: how many it has.";
        edges.edge(10, whole, "feed 0 -> 1\nfeed 127 -> 2\nfeed 65 -> 3\ncount 6 -> 3\n97 * feed 1 -> 100",
            "feed 101 -> 1\nfeed 97 -> 2\nfeed 116 -> 3\nfeed 32 -> 4\nfeed 52 -> 5\nfortress -> 0\ntold 1 -> 4\nfeed 0 -> 1");
        String wrong = "how many it has. BAD; FULL.";
        refused(10, wrong, Twins.SOME, "feed {-1 128 MIN MAX}", BAD);
        refused(10, wrong, Twins.LONG, "feed {-1 128}", BAD);
        refused(10, wrong, Twins.LONG, "feed {0 59 127}", IS_FULL);
        refused(10, wrong, Twins.FULL, "feed {0 127}", IS_FULL);
        edges.edge(10, wrong, "99 * feed 3 -> 99\nfeed 128 -> BAD\nfeed 3 -> 100\nfeed 3 -> FULL\nfeed -1 -> BAD\ncount 6 -> 100");
    }

    private void fortress() {
        String whole = "THE TEXT, which is empty then, is a FORTRESS, and holds: its number.";
        edges.edge(11, whole, """
            say eat 2 -> 0
            count 6 -> 0
            count 2 -> 1
            told 1 -> 2
            fortress -> -10
            told 1 -> 2
            say eat 3 -> 1
            told 1 -> 3
            """);
        refused(11, "FULL: there are 6 (THE TEXT stays);", Twins.FULL, "fortress", IS_FULL);
        edges.edge(11, "FULL: there are 6 (THE TEXT stays);", """
            say eat 1 -> 0
            say eat 2 -> 1
            say eat 3 -> 2
            say eat 4 -> 3
            say eat 5 -> 4
            say eat 6 -> 5
            fortress -> FULL
            say eat 7 -> FULL
            count 6 -> 5
            told 1 -> 6
            text ! -> 6
            fortress -> FULL
            count 6 -> 6
            count 2 -> 6
            """, "image\nsay eat 1\nsay eat 2\nsay eat 3\nsay eat 4\nsay eat 5\nsay eat 6 -> 5\nundo\nsay eat 7 -> FULL\ntold 1 -> 1");
        String fault = "-10 less the FAULT (the one that held holds).";
        edges.edge(11, fault, "say eat 7 -> 0\nfortress -> -10\nsay eat 8; -> -16\nsay eat 8;lure 9 p=0;! -> -27\ntold 1 -> 7\ncount 2 -> 1\n"
            + "count 6 -> 0\ngoose 0 0 0 -1\nof 0 10 -> 5\nsay lure 3 p=0 -> 1\nsay lure 9 p=0;; -> -21\nof 0 10 -> 8\ntold 1 -> 1",
            "say eat 8;eat -> -19\ntold 1 -> 1\ncount 2 -> 0\nsay eat 9 -> 0");
        twins.same(edges.named(11, fault), Twins.LATE + "say eat 9;lure 9 c=1;scare -> -32\n", Twins.LATE);
        twins.same(edges.named(11, fault), Twins.LATE + "fortress -> -10\n", Twins.LATE);
    }

    private void told() {
        String whole = "What 0 HOUR, 1 EAT, 2 which GATES are OPEN (bits), 3 SHUT (bits), 4 GRAIN of all, together, 10 and c GRAIN, 20 and c FAR of"
            + " COURT c (bits).";
        edges.edge(12, whole, """
            told {0 2 3} -> 0
            told 1 -> 1
            told 4 -> 40
            grains 0 0 0 0 0 0 0 0
            told 4 -> 0
            grains 99 98 97 96 99 99 99 1
            told 4 -> 688
            told 10 -> 99
            told 13 -> 96
            told 17 -> 1
            9 * gate 0 7
            told 2 -> 0
            told 3 -> 511
            told 20 -> 1
            goose 3 0 0 0
            goose 3 0 7 8
            told 2 -> 257
            told 3 -> 254
            told 20 -> 129
            told 27 -> 129
            told 21 -> 2
            pass 60
            told 0 -> 60
            """);
        refused(12, whole, Twins.SOME, "told {0 .. 4}\ntold {10 17 20 27}", null);
        refused(12, whole, Twins.LATE, "told {3 20 21 22}", null);
        refused(12, "FAR of COURT c (bits). NONE.", Twins.SOME, "told {-1 5 9 18 19 28 30 MIN MAX}", NONE);
        refused(12, "FAR of COURT c (bits). NONE.", Twins.NEW, "told {-1 5 9 18 19 28}", NONE);
    }

    private void pass() {
        String whole = "n HOURS (0 .. 60) go: HOUR.";
        edges.edge(13, whole, "pass 0 -> 0\npass 60 -> 60\npass 0 -> 60\npass 1 -> 61\npass 59 -> 120",
            "goose 0 0 0 -1\ngrain 0 60\npass 0 -> 0\ntold 10 -> 60\npass 60 -> 60\ntold 10 -> 0\ngrain 0 61\npass 60\ntold 10 -> 1");
        twins.same(edges.named(13, whole), Twins.SOME + "pass 0 -> 2\n", Twins.SOME);
        String wrong = "BAD; STATE: it would be above 9999.";
        refused(13, wrong, Twins.SOME, "pass {-1 61 MIN MAX}", BAD);
        refused(13, wrong, Twins.LATE, "pass {-1 61 MIN MAX}", BAD);
        refused(13, wrong, Twins.LATE, "pass {50 51 59 60}", STATE);
        refused(13, wrong, Twins.LATE + "pass 49 -> 9999\n", "pass {1 60}", STATE);
        refused(13, wrong, Twins.LATE + "pass 49 -> 9999\n", "pass {-1 61}", BAD);
        refused(13, wrong, Twins.LATE + "pass 49 -> 9999\n", "pass 0", "9999");
        edges.edge(13, wrong, "165 * pass 60 -> 9900\npass 39 -> 9939\npass 60 -> 9999\npass 1 -> STATE\npass 0 -> 9999",
            "165 * pass 60\npass 40 -> 9940\npass 60 -> STATE\npass 59 -> 9999\ntold 0 -> 9999",
            "165 * pass 60\npass 60 -> 9960\npass 38 -> 9998\nimage\npass 2 -> STATE\npass 1 -> 9999\npass 1 -> STATE\nundo\ntold 0 -> 9998");
    }

    private void on() {
        String whole = "ON: what 0 which GATES are OPEN (bits), 10 and c GRAIN of COURT c, 20 and p COURT of GOOSE p.";
        edges.edge(14, whole, """
            on 0 0 -> 0
            on 60 17 -> 5
            gate 0 1
            goose 3 0 {0 1 2 3 4 7} 0
            on 0 0 -> 1
            on 0 {10 .. 17} -> 5
            on 1 {10 11 12 13 14 17} -> 4
            on 1 {15 16} -> 5
            on 5 17 -> 0
            on 6 17 -> 0
            on 60 20 -> 0
            on 60 25 -> 7
            on 0 24 -> 4
            """);
        refused(14, whole, Twins.SOME, "on {0 1 60} {0 10 17 20 22}", null);
        refused(14, whole, Twins.LATE, "on 60 {0 11 20}", null);
        String wrong = "NONE; BAD: n.";
        refused(14, wrong, Twins.SOME, "on {0 -1 61} {-1 1 9 18 19 23 25 26 MIN MAX}", NONE);
        refused(14, wrong, Twins.NEW, "on {0 61} {20 25}", NONE);
        refused(14, wrong, Twins.FULL, "on 0 26", NONE);
        refused(14, wrong, Twins.SOME, "on {-1 61 MIN MAX} {0 10 17 20 22}", BAD);
    }

    private void opens() {
        String whole = "OPENS; -5. NONE.";
        edges.edge(15, whole, "opens 0 -> NONE\ngate 0 1\nopens 0 -> -5\nopens 1 -> NONE\ngoose 3 0 0 8\nkey 0 0\nopens 0 -> 0\nopens {-1 8 9 MIN MAX} -> NONE",
            "9 * gate 0 1\nopens {0 8} -> -5\nopens 9 -> NONE\ngoose 3 0 0 8\nopens 8 -> 0");
        refused(15, whole, Twins.SOME, "opens {-1 3 8 9 MIN MAX}", NONE);
        refused(15, whole, Twins.FULL, "opens 9", NONE);
        refused(15, whole, Twins.SOME, "opens {0 1 2}", null);
        refused(15, whole, Twins.LATE, "opens {0 1}", null);
    }

    private void way() {
        String whole = "What 0 WAY, 1 KEYS from a COURT to a COURT; -5. NONE.";
        edges.edge(16, whole, "way 0 0 0 -> 0\nway 7 7 0 -> 0\nway 0 7 {0 1} -> -5\nway 0 0 1 -> -5\ngate 0 7\ngoose 3 0 0 0\nway 0 7 0 -> 1\nway 7 0 0 -> 1");
        refused(16, whole, Twins.SOME, "way {-1 8 MIN MAX} {0 8} {0 1 2}\nway 0 {-1 8 MIN MAX} {0 1 -1}\nway {0 7} {0 7} {-1 2 MIN MAX}", NONE);
        refused(16, whole, Twins.SOME, "way {0 1 2} {1 2 7} {0 1}", null);
        refused(16, whole, Twins.FULL, "way 0 7 {0 1}", null);
        refused(16, whole, Twins.LATE, "way 2 0 {0 1}", null);
    }

    private void lead() {
        String whole = "LEAD; -5. NONE; BAD: n.";
        edges.edge(17, whole, """
            lead 0 5 -> NONE
            say eat 0
            gate 0 1
            gate 1 2
            goose 0 0 0 1
            lead 1 1 -> 1
            lead 1 99 -> 1
            lead 0 99 -> -5
            lead 1 {0 100} -> BAD
            lead 2 1 -> NONE
            opens 1 -> -5
            """);
        refused(17, whole, Twins.SOME, "lead {-1 3 9 MIN MAX} {1 0 100}", NONE);
        refused(17, whole, Twins.SOME, "lead {0 2} {0 -1 100 MIN MAX}", BAD);
        refused(17, whole, Twins.SOME, "lead {0 1 2} {1 99}", null);
        refused(17, whole, Twins.LATE, "lead {0 1} {1 99}", null);
    }
}
