import java.io.IOException;
import java.io.UncheckedIOException;
import java.nio.file.Files;
import java.nio.file.Path;
import java.util.ArrayList;
import java.util.Arrays;
import java.util.List;
import java.util.regex.Matcher;
import java.util.regex.Pattern;

/** The document's Terms (section 0) and promises, and which of their sentences a test has named. */
final class Document {
    static final int PROMISES = 37;

    /** Words by which a sentence names a boundary: numbers, refusals, what is empty, least, or does not matter. */
    private static final Pattern BOUNDS = Pattern.compile("\\d+|\\b(?:NONE|BAD|STATE|FULL|NO|NOTHING|CAST|PLACE|SIZE|"
        + "least|less|lesser|greatest|greater|most|more|fewest|first|last|lowest|latest|newest|none|nothing|empty|never|not|"
        + "matter|whatever|wrapping|below|above|beyond|either|others|alike|one|both|same|stays|holds|too)\\b");

    private final String[] sections = new String[PROMISES + 1];
    private final boolean[][] named = new boolean[PROMISES + 1][];

    Document() {
        String text;
        try {
            text = Files.readString(Path.of("../shared/DOC.md"));
        } catch (IOException e) {
            throw new UncheckedIOException(e);
        }
        for (int section = 0; section <= PROMISES; section++) {
            int head = text.indexOf(section == 0 ? "## Terms" : "## Promise " + section + ":");
            int body = text.indexOf('\n', head);
            int end = text.indexOf("\n## ", body);
            String bare = text.substring(body, end).replaceAll("==== \\d |```(text)?", "");
            sections[section] = bare.replaceAll("\\s+", " ");
            named[section] = new boolean[sections[section].length()];
        }
    }

    /** Whether a sentence stands in a section; it is named then. */
    boolean name(int section, String sentence) {
        String plain = sentence.replaceAll("\\s+", " ");
        int at = sections[section].indexOf(plain);
        boolean is = at >= 0;
        while (at >= 0) {
            Arrays.fill(named[section], at, at + plain.length(), true);
            at = sections[section].indexOf(plain, at + 1);
        }
        return is;
    }

    /** What names a boundary in a section, and stands in no sentence that a test has named. */
    List<String> unnamed(int section) {
        List<String> unnamed = new ArrayList<>();
        Matcher bounds = BOUNDS.matcher(sections[section]);
        while (bounds.find()) {
            int at = bounds.start();
            boolean isFace = section > 0 && at < sections[section].indexOf("`:");
            if (!named[section][at] && !isFace) {
                String around = sections[section].substring(Math.max(0, at - 30), Math.min(at + 30, sections[section].length()));
                unnamed.add(bounds.group() + " in: .." + around + "..");
            }
        }
        return unnamed;
    }
}
