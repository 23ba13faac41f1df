import java.lang.reflect.Constructor;
import java.lang.reflect.Field;
import java.lang.reflect.Method;
import java.lang.reflect.Modifier;
import java.nio.file.Files;
import java.nio.file.Path;
import java.util.Arrays;
import java.util.Set;
import java.util.TreeSet;
import java.util.regex.Matcher;
import java.util.regex.Pattern;

/** The face of the class, and those rules of LANGUAGE.md that can be seen from its text and its members. */
public final class LanguageTest {
    private static final Check CHECK = new Check("LanguageTest");

    private static final String FACE = "gate(int, int) goose(int, int, int, int) of(int, int) key(int, int) put(int, int) "
        + "take(int, boolean) grain(int, int) row(int, int, int) feed(int) fortress() told(int) pass(int) on(int, int) "
        + "opens(int) way(int, int, int) lead(int, int) see(int, int, int) from(int) can(int, int) long odds(int, int, int) "
        + "long mean(int, int) plan(int, int) ends(int) book(int, int) looked() judge(int, int) image() undo() "
        + "act(int, int, int) trace(int) taken(int, int) count(int) tape(int, int, int) item(int, int, long) "
        + "long read(int, int) shift(int, int, int, int, int)";

    public static void main(String[] args) throws Exception {
        face();
        names();
        words();
        sizes();
        recursion();
        CHECK.end();
    }

    private static void face() throws Exception {
        Set<String> due = new TreeSet<>();
        Matcher each = Pattern.compile("(long )?(\\w+\\([^)]*\\))").matcher(FACE);
        while (each.find()) {
            due.add((each.group(1) == null ? "int " : "long ") + each.group(2));
        }
        Set<String> is = new TreeSet<>();
        for (Method method : GeeseKeys.class.getDeclaredMethods()) {
            if (!Modifier.isPrivate(method.getModifiers())) {
                CHECK.isSo(method + " is public", method.getModifiers() == Modifier.PUBLIC);
                String values = Arrays.toString(method.getParameterTypes());
                is.add(method.getReturnType() + " " + method.getName() + "(" + values.substring(1, values.length() - 1) + ")");
            }
        }
        CHECK.isSo("the face is " + is + ", due is " + due, is.equals(due));
        Set<String> constants = new TreeSet<>();
        for (Field field : GeeseKeys.class.getDeclaredFields()) {
            if (!Modifier.isPrivate(field.getModifiers())) {
                constants.add(Modifier.toString(field.getModifiers()) + " " + field.getType() + " " + field.getName());
            }
        }
        String kind = "public static final ";
        CHECK.isSo("constants " + constants, constants.equals(Set.of(kind + "int NONE", kind + "int BAD",
            kind + "int STATE", kind + "int FULL", kind + "long NO")));
        Constructor<?>[] constructors = GeeseKeys.class.getDeclaredConstructors();
        CHECK.isSo("one public constructor", constructors.length == 1 && Modifier.isPublic(constructors[0].getModifiers())
            && constructors[0].getParameterCount() == 0);
        CHECK.isSo("the class is public and final", GeeseKeys.class.getModifiers() == (Modifier.PUBLIC | Modifier.FINAL));
    }

    private static void names() {
        Set<String> shown = new TreeSet<>();
        for (Method method : GeeseKeys.class.getDeclaredMethods()) {
            if (Modifier.isPublic(method.getModifiers())) {
                shown.add(method.getName());
            }
        }
        for (Class<?> each : classes()) {
            if (each != GeeseKeys.class) {
                int is = each.getModifiers();
                CHECK.isSo(each + " is static, and not public", Modifier.isStatic(is) && !Modifier.isPublic(is));
                CHECK.isSo(each + " has few fields", each.getDeclaredFields().length <= 20);
            }
            for (Method method : each.getDeclaredMethods()) {
                boolean isShown = each == GeeseKeys.class && Modifier.isPublic(method.getModifiers());
                CHECK.isSo(method + " bears its own name", isShown || !shown.contains(method.getName()));
                CHECK.isSo(method + " has few parameters", method.getParameterCount() <= 7);
            }
            for (Field field : each.getDeclaredFields()) {
                int is = field.getModifiers();
                CHECK.isSo(field + " if static, is final", !Modifier.isStatic(is) || Modifier.isFinal(is));
            }
        }
        CHECK.isSo("some twelve classes", classes().length <= 12);
    }

    private static Class<?>[] classes() {
        Class<?>[] inside = GeeseKeys.class.getDeclaredClasses();
        Class<?>[] all = Arrays.copyOf(inside, inside.length + 1);
        all[inside.length] = GeeseKeys.class;
        return all;
    }

    private static String bare() throws Exception {
        String text = Files.readString(Path.of("src/main/java/GeeseKeys.java"));
        return text.replaceAll("(?s)/\\*.*?\\*/", "").replaceAll("//[^\n]*", "").replaceAll("\"[^\"\n]*\"|'[^'\n]+'", "0");
    }

    private static void words() throws Exception {
        String bare = bare();
        String[] words = {"throw", "throws", "try", "catch", "finally", "synchronized", "assert", "import", "package",
            "instanceof", "yield", "record", "var", "float", "double", "System\\.out", "native", "volatile", "Thread",
            "Object", "hashCode", "toString", "Exact", "nanoTime", "currentTimeMillis", "Random"};
        for (String word : words) {
            CHECK.isSo("no " + word, !Pattern.compile("\\b" + word + "\\b").matcher(bare).find());
        }
        CHECK.isSo("no lambda, no method reference", !bare.contains("->") && !bare.contains("::"));
        CHECK.isSo("no remainder or quotient by what may be 0",
            !Pattern.compile("[/%]\\s*(?!8\\b|2\\b|3\\b|10\\b|Goose\\.PARTS)\\w+").matcher(bare.replace("/=", "/")).find());
        Matcher library = Pattern.compile("\\b(System|Math|Integer|Long|Arrays)\\.(\\w+)").matcher(bare);
        while (library.find()) {
            CHECK.isSo("library " + library.group(), Set.of("System.arraycopy", "Math.min", "Math.max",
                "Integer.bitCount", "Long.MIN_VALUE").contains(library.group()));
        }
    }

    private static void sizes() throws Exception {
        int lines = 0;
        for (String line : bare().split("\n")) {
            boolean isHead = line.matches("( {4}| {8})[\\w\\[\\] ]+\\(.*\\) \\{");
            lines = isHead ? 0 : lines + 1;
            CHECK.isSo("a method of some sixty lines at most", !line.matches("( {4}| {8})\\}") || lines <= 60);
            CHECK.isSo("a line of 120 signs at most", line.length() <= 120);
        }
    }

    /** What calls itself is private and static, or, as one of those that call one another, carries its depth. */
    private static void recursion() throws Exception {
        Matcher each = Pattern.compile("(?m)^( {4}| {8})(?! )([\\w\\[\\] ]*?)(\\w+)\\(([^)]*)\\) \\{\\R((?s:.*?))^\\1\\}").matcher(bare());
        int methods = 0;
        int selves = 0;
        while (each.find()) {
            methods++;
            if (Pattern.compile("(?<![.\\w])" + each.group(3) + "\\(").matcher(each.group(5)).find()) {
                selves++;
                CHECK.isSo(each.group(3) + " may call itself", each.group(2).startsWith("private static ")
                    || each.group(2).startsWith("private ") && each.group(4).contains("int depth"));
            }
        }
        CHECK.isSo("methods are found: " + methods, methods > 100);
        CHECK.due("methods that call themselves", selves, 4);
    }
}
