/** The edges that promises 18 to 37 name, call by call: seen, odds, plans, books, judging, the image, acts, tapes. */
final class CallsTwoEdges {
    private static final String NONE = "NONE", BAD = "BAD", IS_FULL = "FULL", NO = "NO";
    private static final String NOTHING = "NOTHING", CAST = "CAST", PLACE = "PLACE", SIZE = "SIZE";

    private final Edges edges;
    private final Twins twins;

    private CallsTwoEdges(Edges edges, Twins twins) {
        this.edges = edges;
        this.twins = twins;
    }

    static void run(Edges edges, Twins twins) {
        CallsTwoEdges calls = new CallsTwoEdges(edges, twins);
        calls.see();
        calls.fromCan();
        calls.oddsMean();
        calls.plan();
        calls.ends();
        calls.book();
        calls.judge();
        calls.imageUndo();
        calls.actTrace();
        calls.taken();
        calls.count();
        calls.tape();
        calls.item();
        calls.read();
        calls.shift();
        calls.changesNothing();
    }

    private void refused(int promise, String sentence, String base, String calls, String answer) {
        twins.refused(edges.named(promise, sentence), base, calls, answer);
    }

    private void see() {
        String whole = "What is SEEN comes: how many there are (goose -1: none then, 0, whatever the others are).";
        edges.edge(18, whole, """
            see -1 0 0 -> 0
            goose 0 0 0 -1
            see 0 0 0 -> 1
            see 0 12 7 -> 2
            see -1 MIN MAX -> 0
            count 3 -> 0
            from 0 -> 255
            see 0 12 7 -> 1
            from 0 -> 128
            see -1 13 8 -> 0
            see -1 -1 -1 -> 0
            5 * see 0 0 3 -> 5
            see 0 0 3 -> FULL
            see -1 0 0 -> 0
            see 0 0 3 -> 1
            """);
        twins.same(edges.named(18, whole), Twins.LATE + "see 0 1 1 -> 1\nsee 1 2 3 -> 2\nsee -1 99 99 -> 0\n", Twins.LATE);
        twins.same(edges.named(18, whole), Twins.LATE + "see -1 0 0 -> 0\n", Twins.LATE);
        String none = "NONE: goose, court;";
        refused(18, none, Twins.SOME, "see {-2 3 6 MIN MAX} {0 -1 13} 0\nsee 0 {0 -1 13} {-1 8 MIN MAX}\nsee 3 13 8", NONE);
        refused(18, none, Twins.NEW, "see 0 0 0", NONE);
        refused(18, none, Twins.FULL, "see {-2 6} {0 13} 0\nsee 5 {0 13} {-1 8}", NONE);
        refused(18, "BAD: n;", Twins.SOME, "see {0 2} {-1 13 MIN MAX} {0 7}", BAD);
        refused(18, "BAD: n;", Twins.FULL, "see 0 {-1 13} 0", BAD);
        refused(18, "FULL: 5.", Twins.FULL, "see {0 5} {0 12} {0 7}", IS_FULL);
        edges.edge(18, "FULL: 5.", "goose 0 0 0 0\n4 * see 0 1 1 -> 4\nsee 0 1 1 -> 5\nsee 0 1 1 -> FULL\ncount 3 -> 5",
            "goose 0 0 0 0\n4 * see 0 1 1\nimage\nsee 0 2 2 -> 5\nsee 0 2 2 -> FULL\nundo\nsee 0 0 0 -> 5\nsee 0 0 0 -> FULL");
    }

    private void fromCan() {
        String from = "FROM (bits). NONE.";
        edges.edge(19, from, "from 0 -> NONE\ngoose 0 0 3 -1\nfrom 0 -> 255\nsee 0 0 0\nfrom 0 -> 1\nsee -1 0 0\nsee 0 12 7\nfrom 0 -> 128\nsee 0 0 0\n"
            + "from 0 -> 0\nof 0 2 -> 3\nfrom {-1 1 5 6 MIN MAX} -> NONE");
        refused(19, from, Twins.SOME, "from {-1 3 6 MIN MAX}", NONE);
        refused(19, from, Twins.FULL, "from 6", NONE);
        refused(19, from, Twins.SOME, "from {0 1 2}", null);
        refused(19, from, Twins.FULL, "from {0 5}", null);
        String can = "CAN: what 0 how many, 1 the least; -5. NONE.";
        edges.edge(20, can, "can 0 0 -> NONE\ngoose 0 9 3 -1\ncan 0 0 -> 10\ncan 0 1 -> 0\nsee 0 0 4\ncan 0 0 -> 0\ncan 0 1 -> -5\nof 0 1 -> 9\n"
            + "can {-1 1 6 MIN MAX} {0 1} -> NONE\ncan 0 {-1 2 MIN MAX} -> NONE",
            "say lure 9 c=1&v=9;lure 9 c=2&v=0;eat 0\ngate 0 1\ngate 0 2\ngoose 0 5 0 -1\nsee 0 1 1\ncan 0 0 -> 1\ncan 0 1 -> 9\nsee -1 0 0\n"
                + "see 0 12 2\ncan 0 0 -> 1\ncan 0 1 -> 0");
        refused(20, can, Twins.SOME, "can {-1 3 6 MIN MAX} {0 1 2}\ncan {0 2} {-1 2 MIN MAX}", NONE);
        refused(20, can, Twins.SOME, "can {0 1 2} {0 1}", null);
        refused(20, can, Twins.FULL, "can {0 5} {0 1}", null);
    }

    private void oddsMean() {
        String odds = "ODDS; part 0 above, 1 below the line. NO: gate, n, part.";
        edges.edge(21, odds, "odds 0 0 0 -> NO\ngate 0 1\nodds 0 0 0 -> 0\nodds 0 0 1 -> 1\nodds 0 20 0 -> 0\nodds 0 20 1 -> 1\ngoose 3 0 0 0\n"
            + "odds 0 0 {0 1} -> 1\nodds 0 20 {0 1} -> 1\nodds 0 {-1 21} {0 1} -> NO\nodds 0 0 {-1 2} -> NO\nodds {-1 1 9} 0 {0 1} -> NO");
        refused(21, odds, Twins.SOME, "odds {-1 3 9 MIN MAX} 0 {0 1}\nodds 0 {-1 21 MIN MAX} {0 1}\nodds 2 20 {-1 2 MIN MAX}\nodds -1 -1 -1", NO);
        refused(21, odds, Twins.SOME, "odds {0 1 2} {0 20} {0 1}", null);
        refused(21, odds, Twins.FULL, "odds {0 8} {0 20} 0", null);
        refused(21, odds, Twins.LATE, "odds 0 20 1", null);
        String mean = "MEAN; part likewise. NO: n, part.";
        edges.edge(22, mean, "mean 0 0 -> 5\nmean 0 1 -> 1\nmean 60 0 -> 5\nmean 60 1 -> 1\ngrain 0 6\nmean 60 0 -> 41\nmean 60 1 -> 8\n"
            + "mean {-1 61} {0 1} -> NO\nmean 0 {-1 2} -> NO");
        refused(22, mean, Twins.SOME, "mean {-1 61 MIN MAX} {0 1}\nmean {0 60} {-1 2 MIN MAX}\nmean 61 2", NO);
        refused(22, mean, Twins.SOME, "mean {0 60} {0 1}", null);
        refused(22, mean, Twins.LATE, "mean 60 0", null);
    }

    private void plan() {
        String whole = "A row comes to the PLAN: how many there are (what -1: it is empty then, 0, whatever the other is).";
        edges.edge(23, whole, """
            plan -1 0 -> 0
            plan 0 0 -> 1
            plan 1 0 -> 2
            plan 1 7 -> 3
            ends 1 -> 58
            plan -1 MIN -> 0
            count 4 -> 0
            ends 1 -> 40
            plan -1 MAX -> 0
            plan -1 -1 -> 0
            plan 1 0 -> 1
            ends 1 -> 49
            10 * plan 0 0 -> FULL
            plan -1 8 -> 0
            plan 0 0 -> 1
            """);
        twins.same(edges.named(23, whole), Twins.LATE + "plan 0 0 -> 1\nplan 1 3 -> 2\nplan 2 0 -> 3\nplan -1 99 -> 0\n", Twins.LATE);
        String none = "NONE: what (0 .. 3), COURT (by 1), GOOSE (by 2, 3; by 0 n does not matter);";
        refused(23, none, Twins.SOME, "plan {-2 4 MIN MAX} 0\nplan 1 {-1 8 MIN MAX}\nplan {2 3} {-1 3 6 MIN MAX}", NONE);
        refused(23, none, Twins.NEW, "plan {2 3} 0", NONE);
        refused(23, none, Twins.FULL, "plan {-2 4} 0\nplan 1 {-1 8}\nplan {2 3} {-1 6}", NONE);
        edges.edge(23, none, "plan 0 MIN -> 1\nplan 0 MAX -> 2\nplan 0 -1 -> 3\nplan 1 0 -> 4\nplan 1 7 -> 5\n6 * goose 3 0 0 0\nplan 2 0 -> 6\n"
            + "plan 2 5 -> 7\nplan 3 0 -> 8\nplan 3 5 -> 9\nends 1 -> 53");
        refused(23, "FULL: 10.", Twins.FULL, "plan 0 {0 MIN MAX}\nplan 1 {0 7}\nplan {2 3} {0 5}", IS_FULL);
        edges.edge(23, "FULL: 10.", "9 * plan 0 5 -> 9\nplan 1 5 -> 10\nplan 1 5 -> FULL\ncount 4 -> 10\nends 1 -> 49",
            "9 * plan 0 5\nimage\nplan 1 0 -> 10\nplan 1 0 -> FULL\nundo\nends 1 -> 40\nplan 1 0 -> 10\nends 1 -> 49\nplan 1 0 -> FULL");
    }

    private void ends() {
        String whole = "ENDS: what 0 which GATES, 1 GRAIN. NONE.";
        edges.edge(24, whole, "ends 0 -> 0\nends 1 -> 40\n9 * gate 0 1\ngoose 3 0 0 8\nends 0 -> 256\nplan 2 0\nends 0 -> 0\nends {-1 2 MIN MAX} -> NONE\n"
            + "grains 99 99 99 99 99 99 99 99\nends 1 -> 792\nplan 1 0\nends 1 -> 792");
        refused(24, whole, Twins.SOME, "ends {-1 2 MIN MAX}", NONE);
        refused(24, whole, Twins.SOME, "ends {0 1}", null);
        refused(24, whole, Twins.FULL, "ends {0 1}", null);
    }

    private void book() {
        String whole = "A row comes to the BOOK: how many there are (court -1: it is empty then, 0, whatever the other is).";
        edges.edge(25, whole, """
            book -1 0 -> 0
            book 0 0 -> 1
            book 7 99 -> 2
            looked -> 0
            book -1 MAX -> 0
            looked -> -5
            count 5 -> 0
            book -1 -1 -> 0
            book -1 100 -> 0
            8 * book 0 5 -> 8
            book 0 5 -> FULL
            book -1 MIN -> 0
            book 0 5 -> 1
            """);
        twins.same(edges.named(25, whole), Twins.LATE + "book 0 0 -> 1\nbook 3 5 -> 2\nbook -1 100 -> 0\n", Twins.LATE);
        String wrong = "NONE; BAD: grain; FULL: 8.";
        refused(25, wrong, Twins.SOME, "book {-2 8 MIN MAX} {0 -1 100}", NONE);
        refused(25, wrong, Twins.SOME, "book {0 7} {-1 100 MIN MAX}", BAD);
        refused(25, wrong, Twins.FULL, "book {-2 8} {0 100}", NONE);
        refused(25, wrong, Twins.FULL, "book 0 {-1 100}", BAD);
        refused(25, wrong, Twins.FULL, "book {0 7} {0 99}", IS_FULL);
        edges.edge(25, wrong, "7 * book 0 5 -> 7\nbook 7 99 -> 8\nbook 7 99 -> FULL\nbook 7 100 -> BAD\nbook 8 100 -> NONE\ncount 5 -> 8\nlooked -> 7");
        String looked = "LOOKED at; -5.";
        edges.edge(26, looked, "looked -> -5\nbook 0 5\nlooked -> -5\ngrain 0 4\nlooked -> 0\n7 * book 1 5\ngrain 0 5\nlooked -> -5",
            "7 * book 1 5\nbook 7 4 -> 8\nlooked -> 7\ngrain 7 4\nlooked -> -5\ngrain 1 4\nlooked -> 0");
        refused(26, looked, Twins.SOME, "looked", null);
        refused(26, looked, Twins.FULL, "looked", null);
    }

    private void judge() {
        String wrong = "NONE: tape; CAST: it is no row of bytes.";
        edges.edge(27, "JUDGED from place i of a TAPE on.", "tape 5 0 60\nitem 5 {52 .. 59} 5\njudge 5 52 -> -5\njudge 5 0 -> 0\njudge 5 59 -> 101\njudge 5 60 -> 100\n"
            + "judge 5 -1 -> 100\ntape 5 -1 0\njudge 5 0 -> 100");
        refused(27, wrong, Twins.SOME, "judge {-1 6 MIN MAX} {0 -1 99}", NONE);
        refused(27, wrong, Twins.SOME, "judge {1 2 3} {0 -1 3 MIN MAX}", CAST);
        refused(27, wrong, Twins.SOME, "judge {4 5} {0 -1 1 MIN MAX}", "100");
        refused(27, wrong, Twins.SOME, "judge 0 {-1 9 10 MIN MAX}", "100");
        refused(27, wrong, Twins.SOME, "judge 0 {0 1 4 8}", "0");
        refused(27, wrong, Twins.SOME + "tape 4 1 0 -> 1\ntape 5 4 0 -> 1\n", "judge {4 5} {0 -1}", CAST);
    }

    private void imageUndo() {
        edges.edge(28, "THE IMAGE is taken: how many GEESE there are.", "image -> 0\n6 * goose 0 0 0 0\nimage -> 6\nundo -> 6\nimage -> 6");
        edges.edge(29, "All is as THE IMAGE: how many GEESE. STATE: there is none.", "undo -> STATE\nundo -> STATE\nimage -> 0\nundo -> 0\nundo -> 0",
            "goose 0 0 0 0\nundo -> STATE\ncount 0 -> 1\nimage -> 1\ngoose 0 0 0 0\nundo -> 1\ncount 0 -> 1\nput 0 5\nundo -> 1\nof 0 2 -> 0");
        String none = "STATE: there is none.";
        refused(29, none, Twins.NEW, "undo", "STATE");
        refused(29, none, Twins.LATE, "undo", "STATE");
        refused(29, none, Twins.LONG, "undo", "STATE");
        String all = edges.named(29, "All is as THE IMAGE:");
        String changes = "gate 3 4\ngoose 5 1 2 3\nkey 0 3\nput 1 7\ntake 2 true\nrow 1 1 9\ngrain {0 .. 7} 77\npass 7\nsee -1 0 0\nsee 0 1 1\n"
            + "plan -1 0\nplan 1 1\nbook -1 0\nbook 1 1\n";
        twins.same(all, Twins.SOME + "image\n" + changes + "undo -> 3\n", Twins.SOME + "image\n");
        twins.same(all, Twins.SOME + "image\n" + changes + "undo -> 3\n" + changes + "undo -> 3\n", Twins.SOME + "image\n");
        twins.same(all, Twins.SOME + "image\nundo -> 3\n", Twins.SOME + "image\n");
        twins.same(all, Twins.LATE + "image\n" + "goose 6 9 7 8\nrow 2 3 9\ntake 2 true\npass 49\nundo -> 2\n", Twins.LATE + "image\n");
        twins.same(all, "image\n" + Twins.LATE + "undo -> 0\n", "image\nsay lure 3 h>4&c=1;eat 0\nundo\n");
    }

    private void actTrace() {
        String act = "An ACT (0 honks, 1 struts, 2 tells) of a GOOSE with x. 0, and no TRACE then: no such GOOSE, act.";
        edges.edge(30, act, "act 0 0 5 -> 0\ngoose 6 9 0 0\nact 0 0 5 -> 12\ncount 7 -> 2\nact 0 -1 5 -> 0\ncount 7 -> 0\ntrace 0 -> NONE\n"
            + "act 0 1 5 -> 5\ncount 7 -> 5\nact 0 3 5 -> 0\ncount 7 -> 0\nact 0 2 5 -> 11\ncount 7 -> 12\nact 1 2 5 -> 0\ncount 7 -> 0\ntrace 0 -> NONE\n"
            + "act 0 0 1\nact -1 0 5 -> 0\ncount 7 -> 0\nact {-1 1 5 6 MIN MAX} {0 2} 5 -> 0\nact 0 {-1 3 MIN MAX} 5 -> 0\ntake 0 true\nact 0 0 5 -> 12");
        String name = edges.named(30, "no such GOOSE, act.");
        twins.same(name, Twins.LATE + "act 1 2 9\nact 2 0 1 -> 0\n", Twins.LATE);
        twins.same(name, Twins.LATE + "act 1 2 9\nact 0 3 1 -> 0\n", Twins.LATE);
        twins.same(name, Twins.LATE + "act 0 0 1 -> 1\nact 1 2 9\n", Twins.LATE + "act 1 2 9\n");
        String trace = "THE TRACE's i-th body. NONE.";
        edges.edge(31, trace, "trace 0 -> NONE\ngoose 0 0 0 0\nact 0 0 5\ntrace 0 -> 10\ntrace {-1 1 20 MIN MAX} -> NONE\nact 0 2 5\ntrace 2 -> 10\ntrace 3 -> NONE");
        refused(31, trace, Twins.SOME, "trace {-1 4 19 20 21 MIN MAX}", NONE);
        refused(31, trace, Twins.FULL, "trace {-1 12 19 20}", NONE);
        refused(31, trace, Twins.NEW, "trace {-1 0}", NONE);
        refused(31, trace, Twins.FULL, "trace {0 .. 11}", null);
    }

    private void taken() {
        String whole = "A GOOSE taken for one of KIND k (0 .. 6), or one under that: her KIND.";
        edges.edge(32, whole, "goose 6 0 0 0\ntaken 0 {0 3 6} -> 6\ngoose 0 0 0 0\ntaken 1 0 -> 0\ntake 1 true\ntaken 1 0 -> 0\ngoose 4 0 0 0\ntaken 2 {0 1 4} -> 4");
        String wrong = "BAD: k; NOTHING: no such GOOSE; CAST.";
        refused(32, wrong, Twins.SOME, "taken {0 2} {-1 7 MIN MAX}\ntaken {-1 3} {-1 7}", BAD);
        refused(32, wrong, Twins.SOME, "taken {-1 3 6 MIN MAX} {0 6}", NOTHING);
        refused(32, wrong, Twins.NEW, "taken 0 {0 6}", NOTHING);
        refused(32, wrong, Twins.SOME, "taken 0 {2 3 4 5 6}\ntaken 1 {1 2 4 5}\ntaken 2 {1 2 3 4 5 6}", CAST);
        refused(32, wrong, Twins.SOME, "taken 0 {0 1}", "1");
        refused(32, wrong, Twins.SOME, "taken 1 {0 3 6}", "6");
    }

    private void count() {
        String whole = "How many: 0 GEESE, 1 GATES, 2 FORTRESSES, 3 SEEN, 4 of the PLAN, 5 of the BOOK, 6 bytes of THE TEXT, 7 bodies that ran in the"
            + " latest act() (all, kept or not). BAD.";
        edges.edge(33, whole, "count {0 .. 7} -> 0", Twins.SOME + """
            count 0 -> 3
            count 1 -> 3
            count 2 -> 1
            count 3 -> 3
            count 4 -> 4
            count 5 -> 2
            count 6 -> 14
            count 7 -> 4
            """, Twins.FULL + """
            count 0 -> 6
            count 1 -> 9
            count 2 -> 6
            count 3 -> 5
            count 4 -> 10
            count 5 -> 8
            count 6 -> 100
            count 7 -> 12
            """);
        refused(33, whole, Twins.SOME, "count {-1 8 MIN MAX}", BAD);
        refused(33, whole, Twins.SOME, "count {0 .. 7}", null);
    }

    private void tape() {
        String whole = "A TAPE becomes a row of n (0 .. 60) of a sort, all 0, or holds nothing (sort -1: n does not matter): 1.";
        edges.edge(34, whole, """
            tape 0 {0 .. 4} 0 -> 1
            read 0 0 -> NO
            item 0 0 1 -> PLACE
            tape 5 {0 .. 4} 60 -> 1
            read 5 {0 59} -> 0
            read 5 60 -> NO
            item 5 59 1 -> 1
            tape 5 4 60 -> 1
            read 5 59 -> 0
            item 5 59 1 -> 1
            tape 5 4 59 -> 1
            tape 5 4 60 -> 1
            read 5 59 -> 0
            tape 5 -1 MIN -> 1
            item 5 0 1 -> NOTHING
            tape 5 -1 MAX -> 1
            tape 5 -1 61 -> 1
            tape 5 -1 -1 -> 1
            read 5 0 -> NO
            """);
        twins.same(edges.named(34, whole), Twins.LATE + "tape {0 .. 5} 2 9\nitem {0 .. 5} 1 7\ntape {0 .. 5} -1 99\n", Twins.LATE);
        twins.same(edges.named(34, whole), Twins.SOME + "item 3 0 7\ntape 3 3 1 -> 1\nitem 3 0 LMAX -> 1\n", Twins.SOME);
        String wrong = "NONE: tape; BAD: sort, n above 60; SIZE.";
        refused(34, wrong, Twins.SOME, "tape {-1 6 MIN MAX} {0 -1 5} {1 61 -1}", NONE);
        refused(34, wrong, Twins.SOME, "tape {0 5} {-2 5 MIN MAX} {1 -1 61}\ntape {0 5} {0 4} {61 MAX}", BAD);
        refused(34, wrong, Twins.SOME, "tape {0 5} {0 1 2 3 4} {-1 MIN}", SIZE);
    }

    private void item() {
        String whole = "Item i of a TAPE becomes v (its lowest bits, as many as an item has; booleans: whether v is not 0): 1.";
        edges.edge(35, whole, """
            tape 0 0 60
            tape 1 1 60
            tape 2 2 60
            tape 3 3 60
            tape 4 4 60
            item {0 1 2 3 4} 0 65664 -> 1
            item {0 1 2 3 4} 59 -129 -> 1
            read 0 0 -> -128
            read 1 0 -> 128
            read 2 0 -> 65664
            read 3 0 -> 65664
            read 4 0 -> 1
            read 0 59 -> 127
            read {1 2 3} 59 -> -129
            read 4 59 -> 1
            read {0 1 2 3 4} {1 58} -> 0
            item {0 1 2 3 4} 0 4294967296 -> 1
            read {0 1 2} 0 -> 0
            read 3 0 -> 4294967296
            read 4 0 -> 1
            item {0 1 2 3 4} 0 0 -> 1
            read {0 1 2 3 4} 0 -> 0
            """);
        String wrong = "NONE; NOTHING; PLACE.";
        refused(35, wrong, Twins.SOME, "item {-1 6 MIN MAX} {0 -1 99} 7", NONE);
        refused(35, wrong, Twins.SOME, "item 5 {0 -1 60 MIN MAX} 7", NOTHING);
        refused(35, wrong, Twins.NEW, "item {0 5} {0 -1} 7", NOTHING);
        refused(35, wrong, Twins.SOME, "item 0 {-1 9 10 MIN MAX} 7\nitem 1 {-1 3} 7\nitem 3 {-1 1 60} LMIN\nitem 4 {-1 0 1} 7", PLACE);
        refused(35, wrong, Twins.FULL, "item {0 5} {-1 60 61} 7", PLACE);
    }

    private void read() {
        String whole = "NO: no such TAPE, nothing there, no such place.";
        edges.edge(36, "Item i of a TAPE.", "tape 0 3 60\nitem 0 0 LMAX\nitem 0 59 -1\nread 0 0 -> LMAX\nread 0 59 -> -1\nread 0 1 -> 0");
        refused(36, whole, Twins.SOME, "read {-1 6 MIN MAX} 0\nread 5 {0 -1 60}\nread 0 {-1 9 10 MIN MAX}\nread 3 {-1 1}\nread 4 {-1 0}", NO);
        refused(36, whole, Twins.NEW, "read {0 5} 0", NO);
        refused(36, whole, Twins.FULL, "read 5 {-1 60}", NO);
        refused(36, whole, Twins.SOME, "read 0 {0 8}\nread 3 0", null);
    }

    private void shift() {
        String whole = "n items of a TAPE from i on come to another one (or the same) from j on, as they all were before: n.";
        String row = "tape 0 2 6\nitem 0 0 1\nitem 0 1 2\nitem 0 2 3\nitem 0 3 4\nitem 0 4 5\nitem 0 5 6\n";
        edges.edge(37, whole, row + """
            shift 0 0 0 1 5 -> 5
            read 0 {0 1} -> 1
            read 0 2 -> 2
            read 0 3 -> 3
            read 0 4 -> 4
            read 0 5 -> 5
            """, row + """
            shift 0 1 0 0 5 -> 5
            read 0 0 -> 2
            read 0 1 -> 3
            read 0 2 -> 4
            read 0 3 -> 5
            read 0 {4 5} -> 6
            """, row + """
            tape 5 2 3
            shift 0 3 5 0 3 -> 3
            read 5 0 -> 4
            read 5 1 -> 5
            read 5 2 -> 6
            read 0 3 -> 4
            shift 5 1 0 0 2 -> 2
            read 0 0 -> 5
            read 0 1 -> 6
            read 0 2 -> 3
            shift 0 6 5 3 0 -> 0
            shift 0 0 5 3 0 -> 0
            read 5 2 -> 6
            """, "tape {0 .. 4} 0 60\nitem 0 {0 59} 9\nshift 0 0 4 0 60 -> 60\nread 4 {0 59} -> 9\nread 4 {1 58} -> 0\nshift 4 0 4 1 59 -> 59\n"
                + "read 4 {0 1} -> 9\nread 4 {2 59} -> 0");
        String name = edges.named(37, whole);
        twins.same(name, Twins.SOME + "shift 0 0 0 0 9 -> 9\nshift 0 9 0 0 0 -> 0\nshift 4 0 4 0 0 -> 0\nshift 1 3 1 3 0 -> 0\n", Twins.SOME);
        String wrong = "NONE: tapes; NOTHING; CAST: of unlike sorts; PLACE: n, i or j is below 0, or beyond either's end.";
        refused(37, wrong, Twins.SOME, "shift {-1 6 MIN MAX} {0 -1} {0 5 6} 0 1\nshift {0 5} {0 -1} {-1 6 MIN MAX} 0 1", NONE);
        refused(37, wrong, Twins.SOME, "shift 5 {0 -1} {0 1 5} 0 {0 -1}\nshift {0 1} {0 -1} 5 0 {0 99}", NOTHING);
        refused(37, wrong, Twins.SOME, "shift 0 {0 -1} {1 2 3} 0 {1 0 -1 99}\nshift {1 2 3} 0 {0 4} {0 -1} {0 99}", CAST);
        refused(37, wrong, Twins.SOME, """
            shift 0 {-1 MIN} 0 0 1
            shift 0 0 0 {-1 MIN} 1
            shift 0 0 0 0 {-1 MIN 10 MAX}
            shift 0 {10 MAX} 0 0 0
            shift 0 0 0 {10 MAX} 0
            shift 0 9 0 0 1
            shift 0 0 0 9 1
            shift 0 1 0 0 9
            shift 0 0 0 1 9
            shift 0 0 4 0 1
            shift 4 0 0 0 1
            shift 4 1 4 0 0
            shift 0 {1 MAX} 0 0 {MAX MIN}
            shift 0 0 0 {1 MAX} {MAX MIN}
            """, PLACE);
    }

    private void changesNothing() {
        edges.named(Edges.TERMS, "What is answered so changes nothing; what is asked changes nothing.");
        String all = edges.named(Edges.TERMS, "what is asked changes nothing.");
        String asked = "of {0 1} {4 5 10}\ntold {3 20}\non 60 0\nopens {0 1}\nway 0 2 {0 1}\nlead 1 99\nfrom {0 1}\ncan 0 {0 1}\nodds 1 20 0\nmean 60 0\n"
            + "ends {0 1}\nlooked\njudge 0 0\ntrace 0\ntaken 0 0\ncount 7\nread 0 0\n";
        for (String base : new String[] {Twins.NEW, Twins.SOME, Twins.LATE, Twins.LONG, Twins.FULL}) {
            twins.same(all, base + asked, base);
        }
    }
}
