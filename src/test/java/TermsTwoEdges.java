/** The edges that the second part of the Terms names: what is asked, seen, planned, acts, the image. */
final class TermsTwoEdges {
    private static final int TERMS = Edges.TERMS;

    /** She leaves court 0, where she eats one an hour, for 1, an end of the gate of her key, when it has less than 2. */
    private static final String LEAVER = "gate 0 1\ngate 1 2\ngoose 0 0 0 1\ngrains 0 2 0\n";

    private TermsTwoEdges() {
    }

    static void run(Edges edges) {
        beyond(edges);
        on(edges);
        opens(edges);
        ways(edges);
        lead(edges);
        keys(edges);
        seen(edges);
        odds(edges);
        mean(edges);
        plans(edges);
        acts(edges);
        bodies(edges);
        image(edges);
    }

    private static void beyond(Edges edges) {
        String late = """
            say lure 9 h=0&c=1;eat 0
            gate 0 1
            gate 1 2
            166 * pass 60 -> 9960
            pass 39 -> 9999
            goose 0 0 0 1
            """;
        edges.edge(TERMS, "All that follows is asked, goes on from how all is (HOURS beyond 9999, too), and changes nothing.",
            late + """
            on 1 20 -> 0
            on 2 20 -> 1
            on 60 20 -> 1
            on 1 0 -> 0
            on 2 0 -> 2
            on 60 17 -> 5
            opens 1 -> 2
            opens 0 -> -5
            told 3 -> 1
            way 1 2 0 -> 3
            way 0 2 0 -> -5
            told 21 -> 6
            lead 1 5 -> 1
            odds 1 1 0 -> 1
            odds 1 1 1 -> 8
            odds 1 2 0 -> 7
            odds 1 20 1 -> 8
            mean 60 0 -> 5
            see 0 1 0 -> 1
            see 0 2 1 -> 2
            from 0 -> 1
            can 0 0 -> 10
            can 0 1 -> 0
            plan 0 0 -> 1
            ends 0 -> 0
            plan 0 0 -> 2
            ends 0 -> 2
            ends 1 -> 40
            told 0 -> 9999
            of 0 2 -> 0
            of 0 5 -> 0
            pass 1 -> STATE
            pass 0 -> 9999
            """, late + """
            goose 3 0 2 0
            way 1 2 1 -> 1
            way 0 1 0 -> -5
            way 0 1 1 -> 1
            told 0 -> 9999
            of 0 3 -> 1
            of 1 3 -> 0
            """);
    }

    private static void on(Edges edges) {
        edges.edge(TERMS, "ON n HOURS (0 .. 60): which GATES are OPEN (bits); COURT of a GOOSE; GRAIN of a COURT.", LEAVER + """
            grain 0 60
            on 0 20 -> 0
            on 0 10 -> 60
            on 0 11 -> 2
            on 0 0 -> 0
            on 1 10 -> 59
            on 59 20 -> 0
            on 59 0 -> 0
            on 59 10 -> 1
            on 60 20 -> 1
            on 60 0 -> 2
            on 60 10 -> 1
            on 60 11 -> 1
            on {-1 61 MIN MAX} {0 10 17 20} -> BAD
            grain 0 61
            on 60 20 -> 0
            on 60 0 -> 0
            on 60 10 -> 1
            on 60 11 -> 2
            told 10 -> 61
            told 0 -> 0
            """);
    }

    private static void opens(Edges edges) {
        edges.edge(TERMS, "OPENS of a GATE: the fewest HOURS (0 .. 20) behind which it is OPEN (-5: not by then).", LEAVER + """
            grain 0 20
            opens 1 -> 20
            grain 0 21
            opens 1 -> -5
            grain 0 19
            opens 1 -> 19
            grain 0 2
            opens 1 -> 2
            grain 0 1
            opens 1 -> 1
            opens 0 -> -5
            put 0 1
            opens 1 -> 0
            take 0 true
            opens 1 -> -5
            """);
        edges.edge(TERMS, "SHUT: those GATES, as bits, that are not OPEN now, nor behind 1 .. 20 HOURS.", LEAVER + """
            grain 0 20
            told 3 -> 1
            grain 0 21
            told 3 -> 3
            6 * gate 4 5 -> 7
            gate 0 5 -> 8
            told 3 -> 511
            grain 0 1
            told 3 -> 509
            put 0 1
            grain 0 50
            told 2 -> 2
            on 1 0 -> 0
            told 3 -> 509
            take 0 true
            told 3 -> 511
            """, "told 3 -> 0\ngate 0 1\ntold 3 -> 1",
            LEAVER + "grain 2 9\nkey 0 0\nput 0 2\ngrain 1 20\ngrain 0 40\ntold 2 -> 0\ntold 3 -> 2\n");
    }

    private static void ways(Edges edges) {
        edges.edge(TERMS, "WAY from a COURT to a COURT: the fewest HOURS (0 .. 15) in which a man gets there, who in each HOUR goes"
            + " through one GATE that is OPEN as it begins, or waits (-5: not by then).", LEAVER + """
            grain 0 14
            way 1 2 0 -> 15
            way 2 1 0 -> 15
            way 0 2 0 -> -5
            way {0 1 2 4 5 6 7} 3 0 -> -5
            way 3 3 0 -> 0
            way 7 7 0 -> 0
            grain 0 15
            way 1 2 0 -> -5
            grain 0 13
            way 1 2 0 -> 14
            grain 0 1
            way 1 2 0 -> 2
            put 0 1
            way 1 2 0 -> 1
            way 0 2 0 -> -5
            """, """
            say eat 0
            gate {0 1 2 3 4 5} 7
            goose 3 0 {0 1 2 3 4 5} 0
            way 0 7 0 -> 1
            way 0 1 0 -> -5
            key {1 2 3 4 5} -1
            key 1 1
            way 0 1 0 -> 2
            way 0 2 0 -> -5
            """, """
            gate 0 1
            gate 1 2
            goose 0 0 1 0
            grains 0 0 9
            told 2 -> 1
            on 1 0 -> 0
            way 0 1 0 -> 1
            way 0 2 0 -> -5
            """);
        edges.edge(TERMS, "FAR of a COURT: all COURTS to which he gets in 15 HOURS (bits; itself, too).",
            "told 20 -> 1\ntold 21 -> 2\ntold 26 -> 64\ntold 27 -> 128",
            LEAVER + """
            grain 0 14
            told 21 -> 6
            told 22 -> 6
            told 20 -> 1
            grain 0 15
            told 21 -> 2
            told 22 -> 4
            told 23 -> 8
            """, """
            say eat 0
            gate 0 1
            gate 2 3
            gate 4 5
            gate 6 7
            gate 1 2
            gate 3 4
            gate 5 6
            goose 3 0 {1 3 5} 0
            goose 3 0 {3 5 7} 0
            key 0 0
            key 1 1
            key 2 2
            told 20 -> 3
            key 3 5
            told 22 -> 60
            told 25 -> 60
            key 4 6
            key 5 3
            told 22 -> 252
            told 27 -> 252
            told 20 -> 3
            put 0 2
            key 0 4
            told 21 -> 254
            told 20 -> 1
            """);
    }

    private static void lead(Edges edges) {
        edges.edge(TERMS, "LEAD to a GATE with n (1 .. 99): the COURT on which, were n GRAIN more there now (99 at most), OPENS of it is"
            + " least, if it is less than as it is, -5 being greater than all (of several the first; -5: none).", """
            say eat 0
            gate 0 2
            gate 0 1
            gate 2 1
            goose 0 0 0 2
            grains 90 70 70
            lead 2 {0 -1 100 MIN MAX} -> BAD
            lead 2 20 -> -5
            lead 2 21 -> 1
            grain 0 99
            lead 2 99 -> -5
            grain 0 98
            lead 2 28 -> -5
            lead 2 29 -> 1
            lead 2 99 -> 1
            grain 0 70
            lead 2 1 -> 1
            grain 1 69
            lead 2 1 -> 2
            grain 2 69
            lead 2 1 -> -5
            opens 2 -> -5
            grain 1 71
            opens 2 -> 1
            lead 2 99 -> -5
            put 0 1
            lead 2 99 -> -5
            told 11 -> 71
            """, """
            say eat 0
            gate 0 1
            gate 1 2
            gate 0 3
            gate 2 3
            goose 0 0 0 3
            grains 10 5 20 5
            opens 3 -> -5
            lead 3 5 -> -5
            lead 3 6 -> 3
            lead 3 10 -> 3
            grain 1 15
            opens 3 -> 2
            lead 3 10 -> -5
            lead 3 11 -> 3
            """, """
            say eat 0
            gate 1 0
            goose 0 0 1 1
            gate 0 7
            lead 1 1 -> 0
            grain 1 6
            lead 1 1 -> -5
            lead 1 2 -> 0
            """, """
            say eat 0
            gate 1 7
            goose 0 0 1 1
            gate 0 7
            lead 1 1 -> 7
            """);
    }

    private static void keys(Edges edges) {
        edges.edge(TERMS, "KEYS for a COURT and a COURT: the two GEESE (10 times the lesser and the greater number) who should have each"
            + " other's KEY, so that WAY from the one to the other is least, if it is less than as it is, likewise (of several the"
            + " first; -5: none).", """
            way 0 1 1 -> -5
            gate 0 1
            goose 3 0 0 -1
            way 0 1 1 -> -5
            goose 3 0 7 0
            way 0 1 0 -> -5
            way 0 1 1 -> 1
            way 1 0 1 -> 1
            way 0 0 1 -> -5
            way 0 2 1 -> -5
            of 0 3 -> -5
            of 1 3 -> 0
            key 0 0
            way 0 1 0 -> 1
            way 0 1 1 -> -5
            """, """
            gate 0 1
            goose 3 0 {7 7 7 7 0 7} -1
            key 5 0
            way 0 1 1 -> 45
            put 0 1
            way 0 1 1 -> 5
            key 5 -1
            key 4 0
            put 4 7
            put 5 0
            way 0 1 1 -> 4
            put 0 7
            way 0 1 1 -> 45
            """, """
            say eat 0
            gate 0 1
            gate 1 2
            gate 0 2
            goose 3 0 0 -1
            goose 3 0 2 -1
            goose 3 0 1 0
            goose 3 0 7 1
            goose 3 0 7 2
            way 0 2 0 -> -5
            way 0 2 1 -> 4
            key 4 -1
            way 0 2 1 -> 13
            key 3 -1
            way 0 2 1 -> -5
            """);
    }

    private static void seen(Edges edges) {
        edges.edge(TERMS, "SEEN told by hand: a GOOSE, HOURS n (0 .. 12) from now, the COURT she is in then (5 rows at most).", """
            goose 0 0 0 0
            see 0 {-1 13} 0 -> BAD
            count 3 -> 0
            see 0 0 0 -> 1
            see 0 12 7 -> 2
            see 0 0 0 -> 3
            see 0 12 7 -> 4
            see 0 6 3 -> 5
            see 0 6 3 -> FULL
            count 3 -> 5
            """, LEAVER + """
            grain 0 12
            see 0 0 0 -> 1
            see 0 11 0 -> 2
            see 0 12 1 -> 3
            from 0 -> 1
            can 0 0 -> 10
            grain 0 13
            from 0 -> 0
            can 0 0 -> 0
            pass 1 -> 1
            from 0 -> 1
            can 0 0 -> 10
            """);
        edges.edge(TERMS, "FROM of a GOOSE: those COURTS, as bits, by which, were she there now, all of SEEN is so.", LEAVER + """
            from 0 -> 255
            grain 0 12
            see 0 12 1 -> 1
            from 0 -> 3
            see 0 0 1 -> 2
            from 0 -> 2
            see 0 1 1 -> 3
            from 0 -> 0
            goose 3 0 7 -1
            see -1 0 0
            see 1 0 7 -> 1
            from 0 -> 255
            from 1 -> 128
            see 1 12 7 -> 2
            from 1 -> 128
            see 1 5 6 -> 3
            from {0 1} -> 0
            """);
        edges.edge(TERMS, "CAN of a GOOSE: how many numbers v (0 .. 9) there are by which, were that her v, likewise; the least (-5: none).", """
            say eat 0
            gate 0 1
            goose 1 5 0 -1
            goose 3 0 1 -1
            can 0 0 -> 10
            can 0 1 -> 0
            see 0 1 1
            grain 1 15
            can 0 0 -> 10
            can 0 1 -> 0
            grain 1 14
            can 0 0 -> 9
            can 0 1 -> 0
            grain 1 6
            can 0 0 -> 1
            can 0 1 -> 0
            can 1 0 -> 0
            grain 1 5
            can 0 0 -> 0
            can 0 1 -> -5
            see -1 0 0
            see 0 1 0
            grain 1 14
            can 0 0 -> 1
            can 0 1 -> 9
            can 1 0 -> 0
            grain 1 15
            can 0 0 -> 0
            can 0 1 -> -5
            grain 1 7
            can 0 0 -> 8
            can 0 1 -> 2
            can 1 0 -> 10
            can 1 1 -> 0
            of 0 1 -> 5
            """);
    }

    private static void odds(Edges edges) {
        edges.edge(TERMS, "ODDS of a GATE and n HOURS (0 .. 20): if 9 GRAIN more lies in one COURT now (99 at most), each alike likely: how"
            + " likely the GATE is OPEN behind n: a fraction in lowest terms (NO: no such GATE).", """
            say eat 0
            odds 0 0 0 -> NO
            gate 0 1
            goose 0 0 0 0
            odds 0 1 {0 1} -> 1
            gate 0 2
            odds 0 1 0 -> 7
            odds 0 1 1 -> 8
            gate 0 3
            odds 0 1 0 -> 3
            odds 0 1 1 -> 4
            gate 0 4
            odds 0 1 0 -> 5
            odds 0 1 1 -> 8
            gate 0 5
            odds 0 1 0 -> 1
            odds 0 1 1 -> 2
            gate 0 6
            odds 0 1 0 -> 3
            odds 0 1 1 -> 8
            gate 0 7
            odds 0 1 0 -> 1
            odds 0 1 1 -> 4
            odds 0 0 {0 1} -> 1
            odds 1 1 0 -> 0
            odds 1 1 1 -> 1
            odds 6 0 0 -> 0
            odds 7 0 0 -> NO
            odds -1 0 1 -> NO
            """, """
            say eat 0
            gate 0 1
            gate 1 2
            goose 0 0 0 1
            odds 1 0 0 -> 0
            odds 1 0 1 -> 1
            odds 1 1 0 -> 1
            odds 1 1 1 -> 8
            grains 13 5
            odds 1 1 0 -> 1
            grain 0 14
            odds 1 1 0 -> 0
            grains 98 95
            odds 1 1 0 -> 1
            grains 99 95
            odds 1 1 0 -> 0
            odds 1 20 0 -> 0
            odds 1 {-1 21 MIN MAX} {0 1} -> NO
            """, LEAVER + """
            grain 0 20
            odds 1 20 0 -> 7
            odds 1 20 1 -> 8
            grain 0 21
            odds 1 20 0 -> 1
            odds 1 20 1 -> 8
            """);
    }

    private static void mean(Edges edges) {
        edges.edge(TERMS, "MEAN of n HOURS (0 .. 60): GRAIN of all COURTS behind n, together, by 8: a fraction in lowest terms.", """
            mean 0 0 -> 5
            mean 0 1 -> 1
            goose 0 0 0 -1
            grains 60 0 0 0 0 0 0 0
            mean 0 0 -> 15
            mean 0 1 -> 2
            mean 58 0 -> 1
            mean 58 1 -> 4
            mean 59 0 -> 1
            mean 59 1 -> 8
            mean 60 0 -> 0
            mean 60 1 -> 1
            grain 0 61
            mean 60 0 -> 1
            mean 60 1 -> 8
            mean 1 0 -> 15
            mean 1 1 -> 2
            mean {-1 61 MIN MAX} {0 1} -> NO
            grains 99 99 99 99 99 99 99 99
            mean 0 0 -> 99
            mean 0 1 -> 1
            mean 1 0 -> 791
            mean 1 1 -> 8
            mean 4 0 -> 197
            mean 4 1 -> 2
            told 4 -> 792
            """);
    }

    private static void plans(Edges edges) {
        edges.edge(TERMS, "A PLAN told by hand: what goes (0 an HOUR, 1 GRAIN of COURT n is 9 more (99 at most), 2 a GOOSE is TAKEN, 3 she is"
            + " not; 10 rows at most): ENDS: which GATES are OPEN (bits); GRAIN of all, together.", """
            gate 0 1
            ends 0 -> 0
            ends 1 -> 40
            goose 3 0 0 0
            ends 0 -> 1
            plan 2 0 -> 1
            ends 0 -> 0
            plan 3 0 -> 2
            ends 0 -> 1
            plan 0 0 -> 3
            ends 1 -> 39
            plan 1 7 -> 4
            ends 1 -> 48
            plan 1 0 -> 5
            ends 1 -> 57
            grain 7 90
            ends 1 -> 142
            grain 7 91
            ends 1 -> 142
            grain 7 99
            ends 1 -> 142
            grain 7 89
            ends 1 -> 141
            plan 0 0 -> 6
            plan 2 0 -> 7
            plan 0 0 -> 8
            plan 0 0 -> 9
            ends 1 -> 140
            ends 0 -> 0
            plan 3 0 -> 10
            ends 0 -> 1
            plan 0 0 -> FULL
            count 4 -> 10
            told 0 -> 0
            told 4 -> 124
            of 0 4 -> 0
            """, """
            gate 0 1
            goose 0 0 0 0
            plan 1 1 -> 1
            10 * plan 0 0 -> FULL
            ends 1 -> 40
            plan -1 0 -> 0
            grains 1 1 0 0 0 0 0 0
            10 * plan 0 0 -> 10
            ends 1 -> 0
            ends 0 -> 1
            """);
        edges.edge(TERMS, "A BOOK told by hand: COURTS, GRAIN (0 .. 99; 8 at most): LOOKED at: the number of the first of these rows by"
            + " which it is otherwise now (-5: none).", """
            looked -> -5
            book 0 {-1 100} -> BAD
            book {-2 8} 0 -> NONE
            book 0 5 -> 1
            looked -> -5
            book 7 99 -> 2
            looked -> 1
            grain 7 99
            looked -> -5
            book 3 0 -> 3
            looked -> 2
            grain 3 0
            looked -> -5
            4 * book 0 5 -> 7
            looked -> -5
            book 0 4 -> 8
            looked -> 7
            book 0 4 -> FULL
            count 5 -> 8
            grain 0 4
            looked -> 0
            """);
    }

    private static void acts(Edges edges) {
        edges.edge(TERMS, "ACTS of a GOOSE with x (wrapping): 0 honks, 1 struts, 2 tells; i her number.", """
            6 * goose 0 9 0 0 -> 5
            act 0 0 MAX -> MAX
            act 1 0 MAX -> MIN
            act 5 0 MAX -> -2147483644
            act 5 0 MIN -> -2147483643
            act 5 1 MIN -> 2147483644
            act 5 1 4 -> 0
            act 5 2 1073741828 -> MIN
            act 5 2 1073741827 -> 2147483646
            act 0 {-1 3 MIN MAX} 1 -> 0
            """);
        edges.edge(TERMS, "THE TRACE: the numbers of the bodies that ran in the latest act(), as they began; the first 20 are kept.", """
            goose 6 9 0 0
            goose 0 0 0 0
            trace 0 -> NONE
            act 0 2 1
            count 7 -> 12
            trace 0 -> 40
            trace 1 -> 12
            trace 2 -> 70
            trace 3 -> 11
            trace 4 -> 71
            trace {5 6} -> 10
            trace 7 -> 70
            trace 8 -> 11
            trace 9 -> 71
            trace {10 11} -> 10
            trace {12 19 20 21 -1 MIN MAX} -> NONE
            act 1 2 1
            count 7 -> 3
            trace 0 -> 12
            trace 1 -> 11
            trace 2 -> 10
            trace 3 -> NONE
            act 1 3 1 -> 0
            count 7 -> 0
            trace 0 -> NONE
            """);
    }

    private static void bodies(Edges edges) {
        edges.edge(TERMS, "BODIES: GOOSE: 10 honks: x + i. 11 struts: honks(x) - v. 12 tells: struts(x) * 2.",
            "goose 0 9 0 0\ngoose 0 9 0 0\nact 1 0 5 -> 6\ntrace 0 -> 10\nact 1 1 5 -> -3\ntrace 0 -> 11\ntrace 1 -> 10\n"
                + "act 1 2 5 -> -6\ntrace 0 -> 12\ntrace 1 -> 11\ntrace 2 -> 10\ntrace 3 -> NONE");
        edges.edge(TERMS, "GANDER: 20 struts: super.struts(x) ^ 6.",
            "goose 1 9 0 0\nact 0 1 MIN -> 2147483633\ntrace 0 -> 20\ntrace 1 -> 11\ntrace 2 -> 10\ncount 7 -> 3\n"
                + "act 0 1 9 -> 6\nact 0 1 15 -> 0\nact 0 0 9 -> 9\nact 0 2 9 -> 12\ntrace 1 -> 20");
        edges.edge(TERMS, "GOSLING: 30 honks: super.honks(x * 3).",
            "goose 2 9 0 0\nact 0 0 MAX -> 2147483645\ntrace 0 -> 30\ntrace 1 -> 10\ncount 7 -> 2\nact 0 1 3 -> 0\ntrace 0 -> 11\n"
                + "trace 1 -> 30\nact 0 0 715827883 -> -2147483647\nact 0 0 715827882 -> 2147483646");
        edges.edge(TERMS, "OLD: 40 tells: super.tells(x) + struts(1).",
            "goose 3 9 0 0\nact 0 2 1073741833 -> 2147483640\ntrace 0 -> 40\ntrace 1 -> 12\ntrace 2 -> 11\ntrace 3 -> 10\n"
                + "trace 4 -> 11\ntrace 5 -> 10\ncount 7 -> 6\nact 0 1 1 -> -8\ncount 7 -> 2");
        edges.edge(TERMS, "SENTRY: 50 honks: -super.honks(x). 51 struts: super.struts(x + 1).",
            "goose 4 9 0 0\nact 0 0 MIN -> MIN\ntrace 0 -> 50\ntrace 1 -> 10\ncount 7 -> 2\nact 0 0 7 -> -7\n"
                + "act 0 1 MAX -> 2147483633\ntrace 0 -> 51\ntrace 1 -> 20\ntrace 2 -> 11\ntrace 3 -> 50\ntrace 4 -> 10\ncount 7 -> 5\n"
                + "act 0 1 -11 -> 7\nact 0 2 -11 -> 14");
        edges.edge(TERMS, "LARDER: 60 tells: super.tells(x - i).",
            "goose 0 0 0 0\ngoose 5 9 0 0\nact 1 2 MIN -> -22\ntrace 0 -> 60\ntrace 1 -> 12\ntrace 2 -> 11\ntrace 3 -> 30\n"
                + "trace 4 -> 10\ncount 7 -> 5\nact 1 2 1 -> -16\nact 1 0 1 -> 4");
        edges.edge(TERMS, "TOLD: 70 struts: super.struts(x) + super.honks(2). 71 honks: super.honks(x) ^ v.",
            "goose 6 9 0 0\nact 0 0 MIN -> -2147483639\ntrace 0 -> 71\ntrace 1 -> 10\ncount 7 -> 2\nact 0 1 MIN -> -2147483646\n"
                + "trace 0 -> 70\ntrace 1 -> 11\ntrace 2 -> 71\ntrace 3 -> 10\ntrace 4 -> 10\ncount 7 -> 5\nact 0 0 9 -> 0");
        edges.edge(TERMS, "honks(..) and so on: the body of its KIND, or, if that has none, of the next KIND above that has one;"
            + " super.honks(..): so from the KIND above the body's on; all that stands in a body is done from the left on.", """
            goose {1 3 5 6} 1 0 0
            act 0 0 1 -> 1
            trace 0 -> 10
            act 0 2 2 -> 14
            trace 0 -> 12
            trace 1 -> 20
            act 1 0 1 -> 2
            trace 0 -> 10
            act 1 1 1 -> 1
            trace 0 -> 11
            act 2 0 1 -> 5
            trace 0 -> 30
            act 2 1 1 -> 4
            trace 0 -> 11
            trace 1 -> 30
            act 3 2 0 -> 21
            trace 0 -> 40
            trace 1 -> 12
            trace 2 -> 70
            trace 7 -> 70
            """);
    }

    private static void image(Edges edges) {
        edges.edge(TERMS, "THE IMAGE: COURTS, GATES, GEESE with all that is theirs, HOUR, SEEN, the PLAN, the BOOK, which FORTRESS holds.", """
            say eat 3
            gate 0 1
            goose 6 4 0 0
            row 0 2 8
            take 0 true
            grain 7 9
            pass 2
            see 0 0 0
            plan 1 3
            book 7 9
            image -> 1
            say eat 4 -> 1
            gate 1 2
            goose 0 0 0 0
            key 0 5
            put 0 3
            take 0 false
            row 0 2 7
            grain 7 8
            pass 3
            see 0 0 1
            see -1 0 0
            plan 0 0
            book 0 0
            undo -> 1
            told 0 -> 2
            told 1 -> 3
            count 0 -> 1
            count 1 -> 1
            count 3 -> 1
            count 4 -> 1
            count 5 -> 1
            count 2 -> 2
            told 17 -> 9
            of 0 1 -> 4
            of 0 2 -> 0
            of 0 3 -> 0
            of 0 4 -> 1
            of 0 12 -> 8
            from 0 -> 1
            ends 1 -> 53
            looked -> -5
            say eat 5 -> 2
            told 1 -> 5
            undo -> 1
            told 1 -> 3
            """, "image -> 0\nsay eat 7 -> 0\ntold 1 -> 7\nundo -> 0\ntold 1 -> 1\nsay eat 8 -> 1\ntold 1 -> 8");
    }
}
