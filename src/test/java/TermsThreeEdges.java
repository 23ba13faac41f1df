/** The edges that the third part of the Terms names: tapes, judging, answers. */
final class TermsThreeEdges {
    private static final int TERMS = Edges.TERMS;

    private TermsThreeEdges() {
    }

    static void run(Edges edges) {
        tapes(edges);
        judged(edges);
        refusals(edges);
    }

    private static void tapes(Edges edges) {
        edges.edge(TERMS, "TAPES 0 .. 5 hold nothing (at first), or a row of 0 bytes, 1 shorts, 2 ints, 3 longs, 4 booleans (items 0, 1).", """
            item {0 .. 5} 0 0 -> NOTHING
            read {0 .. 5} 0 -> NO
            judge {0 .. 5} 0 -> 100
            item {-1 6} 0 0 -> NONE
            read {-1 6} 0 -> NO
            judge {-1 6} 0 -> NONE
            tape {-1 6} 0 1 -> NONE
            tape {0 .. 5} 0 1 -> 1
            item {0 .. 5} 0 7 -> 1
            read {0 .. 5} 0 -> 7
            tape 0 -1 0 -> 1
            read 0 0 -> NO
            item 0 0 0 -> NOTHING
            read 1 0 -> 7
            """, """
            tape 0 0 1
            item 0 0 127
            read 0 0 -> 127
            item 0 0 128
            read 0 0 -> -128
            item 0 0 -128
            read 0 0 -> -128
            item 0 0 -129
            read 0 0 -> 127
            item 0 0 255
            read 0 0 -> -1
            item 0 0 LMAX
            read 0 0 -> -1
            item 0 0 LMIN
            read 0 0 -> 0
            """, """
            tape 0 1 1
            item 0 0 32767
            read 0 0 -> 32767
            item 0 0 32768
            read 0 0 -> -32768
            item 0 0 -32769
            read 0 0 -> 32767
            item 0 0 65535
            read 0 0 -> -1
            item 0 0 65536
            read 0 0 -> 0
            """, """
            tape 0 2 1
            item 0 0 2147483647
            read 0 0 -> MAX
            item 0 0 2147483648
            read 0 0 -> MIN
            item 0 0 -2147483649
            read 0 0 -> MAX
            item 0 0 4294967296
            read 0 0 -> 0
            """, """
            tape 0 3 1
            item 0 0 LMAX
            read 0 0 -> LMAX
            item 0 0 LMIN
            read 0 0 -> LMIN
            item 0 0 4294967296
            read 0 0 -> 4294967296
            """, """
            tape 0 4 1
            read 0 0 -> 0
            item 0 0 1
            read 0 0 -> 1
            item 0 0 0
            read 0 0 -> 0
            item 0 0 2
            read 0 0 -> 1
            item 0 0 0
            item 0 0 -1
            read 0 0 -> 1
            item 0 0 0
            item 0 0 4294967296
            read 0 0 -> 1
            item 0 0 0
            item 0 0 LMIN
            read 0 0 -> 1
            """);
    }

    private static void judged(Edges edges) {
        edges.edge(TERMS, "GRAIN told by a row of bytes, from a place on, COURT by COURT, is JUDGED: the first that is otherwise; -5: none;"
            + " 100 and how many were looked at, if the row ends ahead of that (or the place is below 0, or the TAPE holds nothing).", """
            judge 0 {0 -1 1 MIN MAX} -> 100
            tape 0 0 0
            judge 0 {0 -1 1 MIN MAX} -> 100
            tape 0 0 7
            item 0 {0 .. 6} 5
            judge 0 0 -> 107
            judge 0 1 -> 106
            judge 0 6 -> 101
            judge 0 {7 8 MAX} -> 100
            judge 0 {-1 -8 MIN} -> 100
            grain 6 4
            judge 0 0 -> 6
            judge 0 1 -> 106
            grain 0 4
            judge 0 {0 1 6} -> 0
            tape 0 0 8
            item 0 {0 .. 7} 5
            grain {0 6} 5
            judge 0 0 -> -5
            judge 0 1 -> 107
            item 0 7 6
            judge 0 0 -> 7
            judge 0 1 -> 6
            item 0 0 4
            judge 0 0 -> 0
            tape 5 0 60
            judge 5 0 -> 0
            item 5 {52 .. 59} 5
            judge 5 52 -> -5
            judge 5 53 -> 107
            judge 5 59 -> 101
            judge 5 60 -> 100
            judge 5 51 -> 0
            grain 7 0
            judge 5 52 -> 7
            item 5 59 256
            judge 5 52 -> -5
            """, """
            grains 99 0 99 0 99 0 99 0
            tape 3 0 9
            item 3 {1 3 5 7} 99
            judge 3 1 -> -5
            judge 3 0 -> 0
            item 3 7 -157
            judge 3 1 -> -5
            item 3 7 -1
            judge 3 1 -> 6
            """);
    }

    private static void refusals(Edges edges) {
        edges.edge(TERMS, "The host's refusals: NOTHING (-11): nothing is there; CAST (-12): another sort or KIND; PLACE (-13): no such place;"
            + " SIZE (-14): a size below 0.", """
            goose 1 0 0 0
            taken 1 0 -> -11
            taken 0 2 -> -12
            item 0 0 0 -> -11
            tape 0 1 2
            judge 0 0 -> -12
            shift 0 0 1 0 0 -> -11
            tape 1 2 2
            shift 0 0 1 0 0 -> -12
            item 0 2 0 -> -13
            shift 0 1 0 0 2 -> -13
            tape 0 0 -1 -> -14
            tape 0 0 MIN -> -14
            """);
        edges.edge(TERMS, "Answers: NONE (-1) no such number; BAD (-2) a number is not as told; STATE (-3) as told; FULL (-4); the first that a"
            + " call's words name.", """
            undo -> -3
            gate 0 8 -> -1
            gate 3 3 -> -2
            9 * gate 0 1
            gate 0 1 -> -4
            gate 3 3 -> -2
            gate 8 8 -> -1
            goose 3 0 0 0
            row 0 0 0 -> -3
            row 0 0 10 -> -2
            row 0 4 10 -> -1
            """);
        edges.edge(TERMS, "Where it may be below 0, -10001 stands for NONE.", """
            of 0 0 -> -10001
            goose 0 0 0 0
            say scare 6 p=0
            of 0 10 -> -1
            of 0 {-1 6 9 18 MIN MAX} -> -10001
            of {-1 1 MIN MAX} 10 -> -10001
            """);
        String name = edges.named(TERMS, "The constants: `NO = Long.MIN_VALUE`: There is no such number.");
        edges.check.due(name, GeeseKeys.NO, Long.MIN_VALUE);
        edges.check.due(name + " NONE", GeeseKeys.NONE, -1);
        edges.check.due(name + " BAD", GeeseKeys.BAD, -2);
        edges.check.due(name + " STATE", GeeseKeys.STATE, -3);
        edges.check.due(name + " FULL", GeeseKeys.FULL, -4);
    }
}
