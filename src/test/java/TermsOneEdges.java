/** The edges that the first part of the Terms names: courts, gates, geese, texts, pulls, hours. */
final class TermsOneEdges {
    private static final int TERMS = Edges.TERMS;

    private TermsOneEdges() {
    }

    static void run(Edges edges) {
        courts(edges);
        geese(edges);
        clauses(edges);
        tests(edges);
        nests(edges);
        faults(edges);
        fortresses(edges);
        sums(edges);
        companyPulls(edges);
        ownPulls(edges);
        open(edges);
        hours(edges);
    }

    private static void courts(Edges edges) {
        edges.edge(TERMS, "COURTS 0 .. 7, each with GRAIN (0 .. 99; 5 at first).", """
            told {10 .. 17} -> 5
            told 18 -> NONE
            told 9 -> NONE
            grain 0 0 -> 5
            grain 0 99 -> 0
            grain 7 99 -> 5
            grain 7 0 -> 99
            grain {-1 8} 5 -> NONE
            grain 3 {-1 100} -> BAD
            told 13 -> 5
            told 10 -> 99
            told 17 -> 0
            told 4 -> 129
            """);
        edges.edge(TERMS, "GATES 0 .. 8, as they come, each between two COURTS (more than one may be between the same).", """
            gate 0 7 -> 0
            gate 0 7 -> 1
            gate 7 0 -> 2
            gate 3 4 -> 3
            gate 0 7 -> 4
            gate 3 4 -> 5
            gate 4 3 -> 6
            gate 1 2 -> 7
            gate 6 5 -> 8
            gate 6 5 -> FULL
            count 1 -> 9
            goose 0 0 0 0
            goose 0 0 7 2
            goose 3 0 6 8
            told 2 -> 261
            told 20 -> 129
            told 25 -> 96
            """, """
            gate 3 3 -> BAD
            gate 3 4 -> 0
            goose 0 0 3 1
            told 2 -> 0
            gate 3 4 -> 1
            told 2 -> 2
            """);
    }

    private static void geese(Edges edges) {
        edges.edge(TERMS, "GEESE 0 .. 5, as they come, are of KINDS: 0 GOOSE; 1 GANDER, 2 GOSLING, 3 OLD under GOOSE;"
            + " 4 SENTRY under GANDER; 5 LARDER under GOSLING; 6 TOLD under OLD;", """
            goose {0 1 2 3 4 5} 1 0 0
            count 0 -> 6
            goose 6 1 0 0 -> FULL
            of 5 0 -> 5
            of 6 0 -> -10001
            taken 0 0 -> 0
            taken 0 {1 .. 6} -> CAST
            taken 1 {0 1} -> 1
            taken 1 {2 .. 6} -> CAST
            taken 2 {0 2} -> 2
            taken 2 {1 3 4 5 6} -> CAST
            taken 3 {0 3} -> 3
            taken 3 {1 2 4 5 6} -> CAST
            taken 4 {0 1 4} -> 4
            taken 4 {2 3 5 6} -> CAST
            taken 5 {0 2 5} -> 5
            taken 5 {1 3 4 6} -> CAST
            """, """
            goose -1 1 0 0 -> NONE
            goose 7 1 0 0 -> NONE
            count 0 -> 0
            goose 6 1 0 0 -> 0
            of 0 0 -> 6
            taken 0 {0 3 6} -> 6
            taken 0 {1 2 4 5} -> CAST
            goose 0 1 0 0 -> 1
            goose 4 1 0 0 -> 2
            """);
        edges.edge(TERMS, "with a number v (0 .. 9), a COURT, a KEY (the number of a GATE, whether there is one or not, or none),"
            + " TAKEN, or not (not at first).", """
            goose 0 {-1 10} 0 0 -> BAD
            goose 0 0 7 8 -> 0
            goose 0 9 0 -1 -> 1
            of 0 1 -> 0
            of 1 1 -> 9
            of 0 2 -> 7
            of 1 2 -> 0
            of 0 3 -> 8
            of 1 3 -> -5
            of {0 1} 4 -> 0
            goose 0 0 0 9 -> NONE
            goose 0 0 0 -2 -> NONE
            8 * gate 0 1 -> 7
            told 2 -> 0
            gate 6 7 -> 8
            told 2 -> 256
            """);
        edges.edge(TERMS, "HOUR: 0 at first.", "told 0 -> 0", "pass 0 -> 0", "pass 1 -> 1");
    }

    private static void clauses(Edges edges) {
        String hundred = "lure 11 p=11" + "&p=1".repeat(22);
        String ten = "eat 1;".repeat(9) + "eat 7";
        edges.edge(TERMS, "A FORTRESS is read from THE TEXT (bytes, 100 at most):", """
            99 * feed 0 -> 99
            feed 127 -> 100
            feed 0 -> FULL
            count 6 -> 100
            fortress -> -10
            count 6 -> 0
            feed 0 -> 1
            """, "text " + hundred + " -> 100\nfeed 59 -> FULL\ncount 6 -> 100\nfortress -> 0\ncount 6 -> 0\nfeed 59 -> 1",
            "say " + hundred.substring(0, 99) + "_ -> -109", "say " + hundred.substring(0, 99) + " -> -109");
        edges.edge(TERMS, "CLAUSES, 1 to 10, with ; between:",
            "fortress -> -10\ncount 2 -> 0",
            "say eat 7 -> 0\ntold 1 -> 7",
            "say " + ten + " -> 0\ntold 1 -> 7",
            "say " + ten + "; -> -69\ntold 1 -> 1",
            "say " + ten + ";eat 8 -> -69\ncount 2 -> 0",
            "say ; -> -10", "say ;eat 1 -> -10", "say eat 1; -> -16", "say eat 1;;eat 1 -> -16", "say eat 1,eat 1 -> -15",
            "say eat 1_;eat 1 -> -15", "say eat 1;_eat 1 -> -16",
            "goose 0 0 0 0\nsay " + "lure 9 p<9;".repeat(8) + "eat 3 -> 0\nof 0 10 -> 77\ntold 1 -> 3");
        edges.edge(TERMS, "lure n E; scare n E; eat n (one blank ahead of each part behind the word; n 1 or 2 digits).",
            "goose 0 0 0 0\nsay lure 0 p=0 -> 0\nof 0 10 -> 5\nsay lure 9 p=0 -> 1\nof 0 10 -> 14\nsay lure 99 p=0 -> 2\nof 0 10 -> 104",
            "goose 0 0 0 0\nsay scare 0 p=0 -> 0\nof 0 10 -> 5\nsay scare 09 p=0 -> 1\nof 0 10 -> -4\nsay scare 99 p=0 -> 2\nof 0 10 -> -94",
            "say eat 0 -> 0\ntold 1 -> 0\nsay eat 00 -> 1\ntold 1 -> 0\nsay eat 05 -> 2\ntold 1 -> 5\nsay eat 99 -> 3\ntold 1 -> 99",
            "say lure 100 p=0 -> -17", "say scare 100 p=0 -> -18", "say eat 100 -> -16", "say eat 000 -> -16",
            "say lure p=0 -> -15", "say scare p=0 -> -16", "say eat p -> -14", "say eat -1 -> -14", "say eat +1 -> -14",
            "say lure__5 p=0 -> -15", "say lure 5__p=0 -> -17", "say scare__5 p=0 -> -16", "say scare 5__p=0 -> -18",
            "say eat__5 -> -14", "say lure5 p=0 -> -14", "say scare5 p=0 -> -15", "say eat5 -> -13", "say lure 5p=0 -> -16",
            "say eat 5 p=0 -> -15", "say lure 5 -> -16", "say scare 5 -> -17", "say luer 5 p=0 -> -12", "say Lure 5 p=0 -> -10",
            "say score 5 p=0 -> -12", "say ear 5 -> -12", "say _eat 5 -> -10", "say eat 5_ -> -15", "say eat 5p -> -15",
            "say lure 5 p=0_ -> -20", "say EAT 5 -> -10", "say eats 5 -> -13", "say lures 5 p=0 -> -14");
    }

    /** One after another, on goose 0 in court 0 with 5 grain there, v 3, of kind 0: whether 10 more lure. */
    private static String holds(String... texts) {
        StringBuilder script = new StringBuilder("goose 0 3 0 0\n");
        int number = 0;
        for (String text : texts) {
            boolean is = text.startsWith("+");
            script.append("say lure 10 ").append(text.substring(1)).append(" -> ").append(number++);
            script.append("\nof 0 10 -> ").append(is ? 15 : 5).append("\n");
        }
        return script.toString();
    }

    private static void tests(Edges edges) {
        String parts = "E: T or T|E. T: F or F&T. F: !F, (E), or a TEST: a letter, < or = or >, a number (1 or 2 digits):";
        edges.edge(TERMS, parts,
            holds("+p=0|p=1&p=2", "-(p=0|p=1)&p=2", "+p=1&p=2|p=0", "-p=1&(p=2|p=0)", "+p=0|p=1", "+p=1|p=0"),
            holds("-p=1|p=2", "-p=0&p=1", "-p=1&p=0", "+p=0&p=0", "-!p=0", "+!p=1"),
            holds("+!p=1&p=0", "-!p=0&p=1", "+!(p=0&p=1)", "+!!p=0", "-!!p=1", "-!(p=1|p=0)"),
            holds("+v=3", "+v=03", "-v=30", "-v=2", "-v=4", "+v<4"),
            holds("-v<3", "-v<2", "+v>2", "-v>3", "-v>4", "+v<99"),
            holds("-v<0", "-v<00", "+v>0", "-v>99", "+p<1", "-p>0"),
            holds("+p=0&v<4", "-p=0&v<3", "-p=1|v<3", "+p=1|v<4", "-v<4&p=1", "+v<3|p=0"),
            holds("+p=0&v>2", "-p=0&v>3", "-p=1|v>3", "+p=1|v>2", "-v>2&p=1", "+v>3|p=0"),
            holds("+p=0|p=0|p=0", "+p=1|p=2|p=0", "-p=0&p=0&p=1", "+p=0&p=0&p=0", "+(p=0)", "+((p=0))"),
            "say lure 1 v=100 -> -21", "say lure 1 v=000 -> -21", "say lure 1 v= -> -19", "say lure 1 v=-1 -> -19",
            "say lure 1 v==1 -> -19", "say lure 1 v!1 -> -18", "say lure 1 v<=1 -> -19", "say lure 1 v>=1 -> -19",
            "say lure 1 p -> -18", "say lure 1 1=p -> -17", "say lure 1 =1 -> -17", "say lure 1 a=1 -> -17",
            "say lure 1 P=1 -> -17", "say lure 1 p=p -> -19", "say lure 1 () -> -18", "say lure 1 (p=1 -> -21",
            "say lure 1 p=1) -> -20", "say lure 1 (p=1)) -> -22", "say lure 1 p=1|| -> -21", "say lure 1 p=1&& -> -21",
            "say lure 1 p=1| -> -21", "say lure 1 p=1& -> -21", "say lure 1 p=1|;eat 1 -> -21", "say lure 1 p=1&;eat 1 -> -21",
            "say lure 1 (p=1|) -> -22", "say lure 1 (p=1&) -> -22", "say lure 1 ! -> -18", "say lure 1 !; -> -18",
            "say lure 1 p=1|&p=1 -> -21", "say lure 1 |p=1 -> -17", "say lure 1 &p=1 -> -17", "say lure 1 p=1! -> -20",
            "say lure 1 p=1(p=1) -> -20", "say lure 1 (p=1)p=1 -> -22", "say lure 1 p=1 |p=1 -> -20", "say lure 1 p =1 -> -18");
        letters(edges);
    }

    private static void letters(Edges edges) {
        edges.edge(TERMS, "of a GOOSE and a COURT p the number of the one, k its KIND, v its v, c the number of the other,"
            + " g its GRAIN, h HOUR modulo 10.", """
            6 * goose 0 0 0 -1 -> 5
            say lure 10 p=0;lure 20 p=5;lure 40 p>5 -> 0
            of 0 10 -> 15
            of {1 .. 4} 10 -> 5
            of 5 10 -> 25
            """, """
            goose {0 1 3 4 6} 0 0 -1
            say lure 10 k=0;lure 20 k=6;lure 40 k>6 -> 0
            of 0 10 -> 15
            of {1 2 3} 10 -> 5
            of 4 10 -> 25
            """, """
            goose 0 {0 9 5} 0 -1
            say lure 10 v=0;lure 20 v=9;lure 40 v>9 -> 0
            of 0 10 -> 15
            of 1 10 -> 25
            of 2 10 -> 5
            """, """
            goose 0 0 3 -1
            say lure 10 c=0;lure 20 c=7;lure 40 c>7 -> 0
            of 0 10 -> 15
            of 0 {11 .. 16} -> 5
            of 0 17 -> 25
            """, """
            goose 0 0 3 -1
            grains 0 99 98 1
            say lure 10 g=0;lure 20 g=99;lure 40 g>99 -> 0
            of 0 10 -> 10
            of 0 11 -> 119
            of 0 12 -> 98
            of 0 13 -> 1
            of 0 14 -> 5
            """, """
            say lure 10 h=0;lure 20 h=9;lure 40 h>9;eat 0 -> 0
            goose 0 0 3 -1
            of 0 10 -> 15
            pass 1 -> 1
            of 0 10 -> 5
            pass 8 -> 9
            of 0 10 -> 25
            pass 1 -> 10
            of 0 10 -> 15
            pass 9 -> 19
            of 0 10 -> 25
            pass 1 -> 20
            of 0 10 -> 15
            pass 60 -> 80
            pass 20 -> 100
            of 0 10 -> 15
            164 * pass 60 -> 9940
            pass 59 -> 9999
            of 0 10 -> 25
            """);
    }

    private static void nests(Edges edges) {
        edges.edge(TERMS, "A ( or ! within 4 others is none.",
            holds("+((((p=0))))", "+!!!!p=0", "+!(!(p=0))", "+(!(!p=0))", "-(((!p=0)))", "-!!!(p=0)"),
            holds("+((((p=0))))&((((p=0))))", "+(p=0)&(p=0)&(p=0)&(p=0)&(p=0)", "+!p=1&!p=1&!p=1&!p=1&!p=1",
                "+(((p=0))&!!!p=1|p=0)", "+!p=1&((((p=0))))", "+((((p=0&p=0|p=1&p=1))))"),
            holds("+(((!p=1&!p=1)))", "+((!p=1&(!p=1)))", "+!((!p=0))", "-((p=0))&!!((p=1))"),
            "say lure 1 (((((p=0))))) -> -21", "say lure 1 !!!!!p=0 -> -21", "say lure 1 ((((!p=0)))) -> -21",
            "say lure 1 !!!!(p=0) -> -21", "say lure 1 !(!(!p=0)) -> -21", "say lure 1 !(!(!!p=0)) -> -21",
            "say lure 1 (!(!(p=0))) -> -21", "say lure 1 ((((p=0&!p=0)))) -> -25", "say lure 1 ((((p=0|(p=0))))) -> -25",
            "say lure 1 p=0&(((((p=0))))) -> -25", "say lure 1 ((((p=0))))&(((((p=0))))) -> -33",
            "say lure 1 (((!p=0&!!p=0))) -> -26", "say scare 1 (((( -> -22", "say scare 1 ((((( -> -22",
            "say scare 1 !!!! -> -22", "say scare 1 !!!!! -> -22");
    }

    /** A text cut short at each place, and with a sign that fits nowhere at each. */
    private static void faults(Edges edges) {
        String sentence = "The FAULT: the place of the first byte with which none begins so (the end of THE TEXT, if it ends too early).";
        String whole = "scare 12 !(p<10|k=2)&c>3;eat 4".replace(' ', '_');
        edges.edge(TERMS, sentence, "fortress -> -10", "say " + whole + " -> 0");
        for (int at = 0; at < whole.length(); at++) {
            String begun = at == 0 ? "" : "text " + whole.substring(0, at) + "\n";
            boolean isWhole = at == 20 || at == 24;
            edges.edge(TERMS, sentence, begun + "fortress -> " + (isWhole ? 0 : -10 - at) + "\ncount 6 -> 0\ncount 2 -> " + (isWhole ? 1 : 0));
            String rest = at == whole.length() - 1 ? "" : "text " + whole.substring(at + 1) + "\n";
            for (int sign : new int[] {0, 64, 127}) {
                edges.edge(TERMS, sentence, begun + "feed " + sign + "\n" + rest + "fortress -> " + (-10 - at) + "\ncount 6 -> 0\ncount 2 -> 0");
            }
        }
        String ninetySix = "lure 99 p=11" + "&p=1".repeat(21);
        edges.edge(TERMS, sentence, "say " + ninetySix + "&p=| -> -109", "say " + ninetySix + "&p= -> -109", "say " + ninetySix + "&p=1 -> 0",
            "say " + ninetySix + "|&p= -> -107", "say lure 9 p=1" + "&p=1".repeat(22) + "&p -> -110",
            "say lure 1 p=12;say -> -23", "say eat 12;lure 3 h=0;scare -> -33", "say eat 1;eat 100;eat -> -22");
    }

    private static void fortresses(Edges edges) {
        edges.edge(TERMS, "The newest FORTRESS holds (6 at most); without one there are no CLAUSES.", """
            goose 0 0 0 -1
            of 0 10 -> 5
            say lure 10 p=0 -> 0
            of 0 10 -> 15
            say lure 20 p=0 -> 1
            of 0 10 -> 25
            say lure 30 q=0 -> -18
            of 0 10 -> 25
            say lure 30 p=0 -> 2
            say lure 40 p=0 -> 3
            say lure 50 p=0 -> 4
            of 0 10 -> 55
            say lure 60 p=0 -> 5
            of 0 10 -> 65
            say lure 70 p=0 -> FULL
            of 0 10 -> 65
            count 2 -> 6
            count 6 -> 11
            """);
        edges.edge(TERMS, "EAT (1 without): the last one's n.", """
            told 1 -> 1
            say lure 1 p=0 -> 0
            told 1 -> 1
            say eat 3;lure 1 p=0;eat 0 -> 1
            told 1 -> 0
            say eat 0;eat 99 -> 2
            told 1 -> 99
            say scare 1 p=0 -> 3
            told 1 -> 1
            """);
    }

    private static void sums(Edges edges) {
        String scares = "scare 99 p=0;".repeat(6) + "scare 99 p=0";
        String lures = "lure 99 p=0;".repeat(7) + "lure 99 p=0";
        edges.edge(TERMS, "SUM of a GOOSE and a COURT: GRAIN, and the n of all lure whose E holds, less those of all scare,"
            + " together (may be below 0).",
            "goose 0 0 0 -1\ngrain 0 0\nsay " + scares + " -> 0\nof 0 10 -> -693\nof 0 11 -> -688",
            "goose 0 0 0 -1\ngrain 0 99\nsay " + lures + " -> 0\nof 0 10 -> 891\nof 0 11 -> 797",
            "goose 0 0 0 -1\nsay lure 7 p=0;scare 12 p=0;lure 1 p=1 -> 0\nof 0 10 -> 0\ngrain 0 4\nof 0 10 -> -1\ngrain 0 6\nof 0 10 -> 1");
        edges.edge(TERMS, "PULL of a COURT on a GOOSE (may be below 0): GOOSE: SUM.", """
            goose 0 9 0 -1
            goose 0 9 0 -1
            gate 0 1
            say scare 6 c<2;scare 6 c=1 -> 0
            of 0 10 -> -1
            of 0 11 -> -7
            of 0 12 -> 5
            of 0 5 -> 0
            grain 1 12
            of 0 11 -> 0
            of 0 5 -> 1
            """);
    }

    private static void companyPulls(Edges edges) {
        edges.edge(TERMS, "GANDER: SUM; v less, if another GOOSE, not TAKEN, is there.", """
            goose 1 9 0 -1
            of 0 {10 .. 17} -> 5
            goose 0 0 3 -1
            of 0 13 -> -4
            of 0 12 -> 5
            of 0 10 -> 5
            goose 0 0 3 -1
            of 0 13 -> -4
            take 1 true
            of 0 13 -> -4
            take 2 true
            of 0 13 -> 5
            goose 0 0 0 -1
            of 0 10 -> -4
            take 0 true
            of 0 10 -> -4
            take 3 true
            of 0 10 -> 5
            take 1 false
            of 0 13 -> -4
            put 1 4 -> 3
            of 0 13 -> 5
            of 0 14 -> -4
            """, """
            goose 1 0 0 -1
            goose 1 9 0 -1
            of 0 10 -> 5
            of 1 10 -> -4
            """);
        edges.edge(TERMS, "SENTRY: as GANDER; 10 more, if it is one end of the GATE her KEY is of.", """
            goose 4 9 0 8
            of 0 {10 .. 17} -> 5
            8 * gate 1 2
            of 0 {10 .. 17} -> 5
            gate 0 7 -> 8
            of 0 10 -> 15
            of 0 {11 .. 16} -> 5
            of 0 17 -> 15
            goose 0 0 7 -1
            of 0 17 -> 6
            goose 0 0 1 -1
            of 0 11 -> -4
            key 0 -1 -> 8
            of 0 10 -> 5
            of 0 17 -> -4
            key 0 0
            of 0 11 -> 6
            of 0 12 -> 15
            take 2 true
            of 0 11 -> 15
            take 0 true
            of 0 11 -> 15
            grain 1 0
            say scare 99 c=1 -> 0
            of 0 11 -> -89
            """);
    }

    private static void ownPulls(Edges edges) {
        edges.edge(TERMS, "GOSLING: the half (cut toward 0) of SUM.", """
            goose 2 9 0 -1
            goose 0 0 0 -1
            grains 0 1 2 3 4 98 99
            say scare 5 c<5 -> 0
            of 0 10 -> -2
            of 0 11 -> -2
            of 0 12 -> -1
            of 0 13 -> -1
            of 0 14 -> 0
            of 0 15 -> 49
            of 0 16 -> 49
            say lure 1 p=0 -> 1
            of 0 10 -> 0
            of 0 11 -> 1
            """);
        edges.edge(TERMS, "OLD: SUM; 0, if it is not the one she is in.", """
            goose 3 9 7 -1
            of 0 {10 .. 16} -> 0
            of 0 17 -> 5
            say scare 50 p=0 -> 0
            of 0 {10 .. 16} -> 0
            of 0 17 -> -45
            put 0 0
            of 0 17 -> 0
            of 0 10 -> -45
            gate 0 5
            of 0 5 -> 5
            grain 0 50
            of 0 5 -> 0
            grain 0 49
            of 0 5 -> 5
            """);
        edges.edge(TERMS, "LARDER: as GOSLING, and 5, if the COURT is 0.", """
            goose 5 9 3 -1
            goose 0 0 0 -1
            of 0 10 -> 7
            of 0 {11 .. 17} -> 2
            grain 0 0
            of 0 10 -> 5
            grain 0 99
            of 0 10 -> 54
            say scare 8 c<2 -> 0
            grain 0 5
            of 0 10 -> 4
            of 0 11 -> -1
            """);
        edges.edge(TERMS, "TOLD: as OLD, and its ROW (four numbers 0 .. 9; 0 at first) at COURT modulo 4 more.", """
            goose 6 9 6 -1
            of 0 {10 .. 15} -> 0
            of 0 16 -> 5
            of 0 17 -> 0
            row 0 {-1 4} 0 -> NONE
            row 0 0 {-1 10} -> BAD
            row 0 0 9 -> 0
            row 0 1 1 -> 0
            row 0 2 2 -> 0
            row 0 3 8 -> 0
            of 0 {10 14} -> 9
            of 0 {11 15} -> 1
            of 0 12 -> 2
            of 0 16 -> 7
            of 0 {13 17} -> 8
            row 0 0 0 -> 9
            of 0 {10 14} -> 0
            row 0 3 9 -> 8
            row 0 3 9 -> 9
            """);
    }

    private static void open(Edges edges) {
        edges.edge(TERMS, "A GATE is OPEN, while a GOOSE, not TAKEN, with its KEY is at one end of it.", """
            gate 0 7
            gate 0 7
            told 2 -> 0
            goose 3 0 0 0
            told 2 -> 1
            put 0 7
            told 2 -> 1
            put 0 6
            told 2 -> 0
            put 0 1
            told 2 -> 0
            put 0 0
            key 0 1
            told 2 -> 2
            key 0 2
            told 2 -> 0
            key 0 -1
            told 2 -> 0
            key 0 0
            take 0 true
            told 2 -> 0
            goose 3 0 7 0
            told 2 -> 1
            take 0 false
            told 2 -> 1
            take 1 true
            told 2 -> 1
            key 1 1
            take 1 false
            told 2 -> 3
            """);
    }

    private static void hours(Edges edges) {
        edges.edge(TERMS, "An HOUR goes: one behind the other by number, each GOOSE not TAKEN goes to that of the COURTS at the"
            + " other ends of the GATES of hers (OPEN or not) whose PULL is greatest (of several the least COURT), if that is more"
            + " than the PULL of the one she is in;", """
            goose 0 0 3 -1
            grains 9 9 9 5 9 9 9 9
            of 0 5 -> 3
            gate 3 7
            of 0 5 -> 7
            gate 6 3
            of 0 5 -> 6
            gate 3 0
            of 0 5 -> 0
            gate 2 1
            of 0 5 -> 0
            grain 7 10
            of 0 5 -> 7
            grain 3 10
            of 0 5 -> 3
            grain 3 9
            of 0 5 -> 7
            told 2 -> 0
            pass 1 -> 1
            of 0 2 -> 7
            """, """
            gate 0 1
            goose {0 0 0} 0 0 -1
            take 1 true
            grains 5 6
            pass 1
            of 0 2 -> 1
            of 1 2 -> 0
            of 2 2 -> 0
            told 10 -> 4
            told 11 -> 5
            pass 1
            of 0 2 -> 1
            of 2 2 -> 0
            told 10 -> 3
            told 11 -> 4
            """);
        edges.edge(TERMS, "then GRAIN of the COURT she is in is EAT less (0 at least). HOUR is 1 more.", """
            goose {3 3} 0 0 -1
            goose 3 0 7 -1
            goose 3 0 6 -1
            take 3 true
            say eat 4
            pass 1 -> 1
            told 10 -> 0
            told 17 -> 1
            told 16 -> 5
            pass 1 -> 2
            told 10 -> 0
            told 17 -> 0
            grain 0 8
            grain 7 4
            pass 1 -> 3
            told 10 -> 0
            told 17 -> 0
            grain 0 9
            say eat 99
            grain 7 99
            pass 1 -> 4
            told 10 -> 0
            told 17 -> 0
            grain 7 99
            say eat 0
            pass 60 -> 64
            told 17 -> 99
            told 16 -> 5
            """);
    }
}
