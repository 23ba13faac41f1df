import java.io.IOException;
import java.lang.reflect.Field;
import java.lang.reflect.Method;
import java.lang.reflect.Modifier;
import java.nio.file.Files;
import java.nio.file.Path;
import java.util.Set;
import java.util.TreeSet;
import java.util.regex.Matcher;
import java.util.regex.Pattern;
import java.util.stream.Collectors;
import java.util.stream.Stream;

/** README.md says what is so: its example's answers, each call and constant, each test. */
public final class ReadmeTest {
    private static final Check CHECK = new Check("ReadmeTest");

    public static void main(String[] args) throws IOException {
        String readme = Files.readString(Path.of("README.md"));
        example(readme);
        fortress(readme);
        face(readme);
        tests(readme);
        CHECK.end();
    }

    /** The calls of the first block of code: each that begins with x. tells its answer. */
    private static void example(String readme) {
        int start = readme.indexOf("```java\n") + 8;
        String block = readme.substring(start, readme.indexOf("```", start));
        Pattern call = Pattern.compile("x\\.(\\w+)\\(([^)]*)\\);\\s*// (-?\\d+)\\b.*");
        Pattern feed = Pattern.compile("feed\\(x, \"([^\"]*)\"\\);");
        StringBuilder script = new StringBuilder();
        for (String line : block.split("\n")) {
            Matcher asked = call.matcher(line);
            Matcher fed = feed.matcher(line);
            if (asked.matches()) {
                String values = asked.group(2).replace(",", "");
                script.append(asked.group(1)).append(" ").append(values).append(" -> ").append(asked.group(3)).append("\n");
            } else if (fed.matches()) {
                script.append("text ").append(fed.group(1)).append("\n");
            } else {
                CHECK.isSo("a row of the example: " + line, line.equals("GeeseKeys x = new GeeseKeys();"));
            }
        }
        CHECK.isSo("an example", script.length() > 0);
        Script.play(new GeeseKeys(), script.toString(), CHECK, "the example");
        Script.play(new Oracle(), script.toString(), CHECK, "the example");
    }

    /** The text that stands there is a fortress. */
    private static void fortress(String readme) {
        Matcher text = Pattern.compile("`(lure [^`]*;[^`]*)`").matcher(readme);
        CHECK.isSo("a fortress's text", text.find());
        CHECK.due(text.group(1), Check.feed(new GeeseKeys(), text.group(1)).fortress(), 0);
    }

    private static void face(String readme) {
        int calls = 0;
        for (Method method : GeeseKeys.class.getDeclaredMethods()) {
            if (Modifier.isPublic(method.getModifiers())) {
                int count = method.getParameterCount();
                String values = count == 0 ? "" : "\\w+" + ", \\w+".repeat(count - 1);
                String told = "`" + method.getName() + "\\(" + values + "\\)`";
                CHECK.isSo("README.md tells of " + told, Pattern.compile(told).matcher(readme).find());
                calls++;
            }
        }
        CHECK.due("calls", calls, 36);
        for (Field field : GeeseKeys.class.getDeclaredFields()) {
            if (Modifier.isPublic(field.getModifiers())) {
                CHECK.isSo("README.md tells of " + field.getName(), readme.contains("`" + field.getName() + "`"));
            }
        }
    }

    private static void tests(String readme) throws IOException {
        Set<String> told = new TreeSet<>();
        Matcher each = Pattern.compile("(?m)^\\| `(\\w+Test)` \\|").matcher(readme);
        while (each.find()) {
            told.add(each.group(1));
        }
        try (Stream<Path> files = Files.list(Path.of("src/test/java"))) {
            Set<String> are = files.map(file -> file.getFileName().toString()).filter(name -> name.endsWith("Test.java"))
                .map(name -> name.replace(".java", "")).collect(Collectors.toCollection(TreeSet::new));
            CHECK.isSo("the tests are " + are + ", told are " + told, are.equals(told));
        }
    }
}
