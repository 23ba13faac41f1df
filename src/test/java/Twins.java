import java.util.ArrayList;
import java.util.HashMap;
import java.util.List;
import java.util.Map;

/**
 * Two objects of which the one had a call more, which should have changed nothing: all that can be
 * asked of them, and what comes of changing both alike, must be the same.
 */
final class Twins {
    /** Some of everything: three gates, geese 0 (gander), 1 (told), 2; an image of how it was; a text begun; five tapes. */
    static final String SOME = """
        gate 0 1
        gate 1 2
        gate 2 0
        goose 1 4 0 0
        goose 6 3 1 1
        goose 0 9 2 -1
        row 1 0 7
        row 1 3 2
        grains 12 7 30 5 9 5 5 99
        say lure 4 c=2&!p=1;scare 3 h>0;eat 2 -> 0
        pass 2 -> 2
        see 1 3 4
        image -> 3
        put 0 2
        key 2 5
        take 1 true
        grain 4 44
        see 0 1 2
        see 2 0 2
        plan 0 0
        plan 1 3
        plan 2 0
        plan 0 0
        book 0 8
        book 7 99
        text eat 7;lure 9 g
        act 0 2 5
        tape 0 0 9 -> 1
        item 0 {1 .. 8} 44
        tape 1 1 3 -> 1
        item 1 2 -5
        tape 2 4 2 -> 1
        item 2 0 1
        tape 3 3 1 -> 1
        item 3 0 LMAX
        tape 4 0 0 -> 1
        """;

    /** As much of everything as there can be. */
    static final String FULL = """
        gate 0 1
        gate {1 2 3 4 5 6 7} 0
        gate 6 7 -> 8
        goose {1 2 3 4 5 6} 5 6 8
        say eat 1
        say eat 1
        say eat 1
        say eat 1
        say eat 1
        say lure 3 k>2;eat 2 -> 5
        grains 9 8 7 6 5 4 3 99
        pass 1 -> 1
        see {0 1 2 3} 2 6
        see 5 1 7 -> 5
        plan {0 0 1 1 2 3} 5
        plan {0 1 0 0} 3
        count 4 -> 10
        book {0 1 2 3} 5
        book {4 5 6 7} 3
        count 5 -> 8
        tape {0 .. 5} 0 60
        item 5 {0 .. 9} 7
        act 5 2 3
        99 * feed 108
        feed 59 -> 100
        image -> 6
        put 0 7
        """;

    /** Hour 9950, with some gates and geese. */
    static final String LATE = """
        say lure 3 h>4&c=1;eat 0 -> 0
        165 * pass 60 -> 9900
        pass 50 -> 9950
        gate 0 1
        gate 1 2
        goose 0 3 0 1
        goose 3 3 2 0
        """;

    /** A text of a hundred bytes that is a fortress, when there are five. */
    static final String LONG = "goose 0 3 0 1\n" + "say eat 5\n".repeat(5) + "text lure 11 p=00" + "&p=0".repeat(22) + "\n";

    static final String NEW = "";

    private final Check check;
    private final List<String> looks = new ArrayList<>();
    private final Map<String, List<List<Long>>> seen = new HashMap<>();

    Twins(Check check) {
        this.check = check;
        String look = "count {0 .. 7}\ntold {0 1 2 3 4}\ntold {10 .. 17}\ntold {20 .. 27}\nof {0 .. 5} {0 .. 5}\n"
            + "of {0 .. 5} {10 .. 17}\ntrace {0 .. 12}\nlooked\nends {0 1}\n";
        looks.add(look);
        looks.add("undo\n" + look);
        looks.add("goose 3 0 0 0\ntake {1 .. 5} true\n" + gateLooks());
        looks.add("from {0 .. 5}\ncan {0 .. 5} {0 1}\npass 1\nfrom {0 .. 5}\ncan {0 .. 5} {0 1}\nput {0 1 2} 2\nfrom {0 .. 5}\n"
            + "see -1 0 0\nsee 0 0 1\nfrom {0 .. 5}\n");
        looks.add("ends {0 1}\nlooked\ngrains 8 7 30 5 9 5 5 99\nends {0 1}\nlooked\ngrains 5 5 5 5 3 3 3 3\nlooked\n"
            + "grains 90 95 99 91 0 1 2 3\nends {0 1}\n10 * plan 1 5\nends 1\n8 * book 2 99\nlooked\ngrain 0 8\nlooked\ngrain 7 99\nlooked\n");
        looks.add("read {0 .. 5} {0 1 2 8 9 59 60}\nshift {0 .. 5} 0 {0 .. 5} 0 0\njudge {0 .. 5} {0 1}\nitem {0 .. 5} 0 33000\n"
            + "read {0 .. 5} 0\nitem {0 .. 5} {2 8} 3\n");
        looks.add("count 6\ntext <99\nfortress\ntold 1\nof 0 {10 .. 17}\nsay eat 9\nsay eat 8\ntold 1\ncount 2\n");
        looks.add("fortress\ntold 1\nof 0 {10 .. 17}\ncount 2\ncount 6\n");
        looks.add("row {0 .. 5} {0 .. 3} 5\nof {0 .. 5} {10 .. 17}\nkey {0 .. 5} 1\nput {0 .. 5} 1\ntake {0 .. 5} false\ntold 2\n"
            + "grain {0 .. 7} 50\ngrain {0 .. 7} 50\n");
        looks.add("pass 3\n" + look);
        looks.add("on 60 0\non {1 60} {10 .. 17}\non {1 60} {20 .. 25}\nopens {0 .. 8}\nlead {0 .. 3} 9\nodds {0 1 2} 3 0\nmean 9 {0 1}\n"
            + "way {0 1 2} {0 1 2 3} {0 1}\n");
    }

    private static String gateLooks() {
        StringBuilder looks = new StringBuilder();
        for (int gate = 0; gate < 9; gate++) {
            looks.append("key 0 ").append(gate).append("\n");
            for (int court = 0; court < 8; court++) {
                looks.append("put 0 ").append(court).append("\ntold 2\n");
            }
        }
        return looks.toString();
    }

    private List<List<Long>> seenOf(String script) {
        List<List<Long>> all = new ArrayList<>();
        for (String look : looks) {
            GeeseKeys x = new GeeseKeys();
            int before = Script.made;
            Script.play(x, script, check, "twin");
            all.add(Script.play(x, look, check, "look"));
            check.isSo("looked at in " + (Script.made - before) + " calls", Script.made - before <= Script.MOST_CALLS);
        }
        return all;
    }

    /** Whether two scripts leave all in the same way. */
    void same(String name, String one, String other) {
        List<List<Long>> due = seen.computeIfAbsent(other, this::seenOf);
        List<List<Long>> is = seenOf(one);
        for (int look = 0; look < looks.size(); look++) {
            check.isSo(name + " leaves all as it was, look " + look, is.get(look).equals(due.get(look)));
        }
    }

    /** Calls (a line for each of the numbers in braces) that are refused, or ask: the answer is due, and nothing is changed. */
    void refused(String name, String base, String calls, String answer) {
        for (String line : calls.split("\n")) {
            for (String call : Script.spread(line.trim())) {
                String told = call + (answer == null ? "" : " -> " + answer);
                Script.play(new Oracle(), base + told + "\n", check, name);
                Script.play(new GeeseKeys(), base + told + "\n", check, name);
                same(name + " | " + call, base + call + "\n", base);
            }
        }
    }
}
