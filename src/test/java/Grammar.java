import java.util.ArrayList;
import java.util.HashSet;
import java.util.List;
import java.util.Set;

/**
 * The document's rules for fortresses, as they stand there, tried all at once: a set of lists of
 * what is still to come. The fault is where the set runs empty. Told apart from the program, that
 * reads one way alone.
 */
final class Grammar {
    private static final int DEPTH = 4;

    private Grammar() {
    }

    /** The fault of a text, or -1 if it is a fortress. */
    static int fault(String text) {
        Set<List<String>> open = expanded(Set.of(List.of("CLAUSES10")));
        for (int at = 0; at < text.length(); at++) {
            Set<List<String>> next = new HashSet<>();
            for (List<String> rest : open) {
                if (!rest.isEmpty() && begins(rest.get(0), text.charAt(at))) {
                    next.add(rest.subList(1, rest.size()));
                }
            }
            if (next.isEmpty()) {
                return at;
            }
            open = expanded(next);
        }
        return open.contains(List.<String>of()) ? -1 : text.length();
    }

    private static boolean begins(String terminal, char sign) {
        return terminal.equals("DIGIT") ? sign >= '0' && sign <= '9' : terminal.charAt(0) == sign;
    }

    private static Set<List<String>> expanded(Set<List<String>> some) {
        Set<List<String>> done = new HashSet<>();
        Set<List<String>> seen = new HashSet<>(some);
        List<List<String>> work = new ArrayList<>(some);
        while (!work.isEmpty()) {
            List<String> rest = work.remove(work.size() - 1);
            List<String> bodies = rest.isEmpty() ? null : bodies(rest.get(0));
            if (bodies == null) {
                done.add(rest);
                continue;
            }
            for (String body : bodies) {
                List<String> more = new ArrayList<>();
                for (String part : body.split("_")) {
                    more.add(part);
                }
                more.addAll(rest.subList(1, rest.size()));
                if (seen.add(more)) {
                    work.add(more);
                }
            }
        }
        return done;
    }

    /** What a name stands for, its parts between underscores; null for what is a sign itself. */
    private static List<String> bodies(String name) {
        if (name.equals("NUMBER")) {
            return List.of("DIGIT", "DIGIT_DIGIT");
        }
        if (name.equals("LETTER")) {
            return List.of("p", "k", "v", "c", "g", "h");
        }
        if (name.equals("SIGN")) {
            return List.of("<", "=", ">");
        }
        if (name.equals("CLAUSE")) {
            return List.of("l_u_r_e_ _NUMBER_ _E0", "s_c_a_r_e_ _NUMBER_ _E0", "e_a_t_ _NUMBER");
        }
        if (name.startsWith("CLAUSES")) {
            int most = Integer.parseInt(name.substring(7));
            return most == 1 ? List.of("CLAUSE") : List.of("CLAUSE", "CLAUSE_;_CLAUSES" + (most - 1));
        }
        if (name.length() != 2) {
            return null;
        }
        int depth = name.charAt(1) - '0';
        switch (name.charAt(0)) {
            case 'E':
                return List.of("T" + depth, "T" + depth + "_|_E" + depth);
            case 'T':
                return List.of("F" + depth, "F" + depth + "_&_T" + depth);
            default:
                String test = "LETTER_SIGN_NUMBER";
                return depth == DEPTH ? List.of(test) : List.of(test, "!_F" + (depth + 1), "(_E" + (depth + 1) + "_)");
        }
    }
}
