import java.lang.reflect.InvocationTargetException;
import java.lang.reflect.Method;
import java.util.ArrayList;
import java.util.HashMap;
import java.util.List;
import java.util.Map;

/**
 * Calls told as lines of text, played on a GeeseKeys or on its Oracle:
 *   gate 0 1 -> 0         a call, and the answer that is due (which may be left out)
 *   9 * feed 33 -> 9      nine calls; the answer is the last one's
 *   say eat 1;eat 2 -> 0  feeds each sign, then fortress(); a _ is a blank
 *   text eat              feeds each sign
 *   grains 1 2 3          GRAIN of courts 0, 1, 2
 *   read 0 {0 .. 2} -> 1  a call for each of the numbers, or of those that stand there with blanks between
 */
final class Script {
    private static final Map<String, Long> NAMES = new HashMap<>();
    private static final Map<String, Method> METHODS = new HashMap<>();

    static {
        NAMES.put("NONE", -1L);
        NAMES.put("BAD", -2L);
        NAMES.put("STATE", -3L);
        NAMES.put("FULL", -4L);
        NAMES.put("NOTHING", -11L);
        NAMES.put("CAST", -12L);
        NAMES.put("PLACE", -13L);
        NAMES.put("SIZE", -14L);
        NAMES.put("NO", Long.MIN_VALUE);
        NAMES.put("MIN", (long) Integer.MIN_VALUE);
        NAMES.put("MAX", (long) Integer.MAX_VALUE);
        NAMES.put("LMIN", Long.MIN_VALUE);
        NAMES.put("LMAX", Long.MAX_VALUE);
        NAMES.put("true", 1L);
        NAMES.put("false", 0L);
    }

    /** How many calls an object is made for. */
    static final int MOST_CALLS = 512;

    /** All calls that scripts made. */
    static int made = 0;

    private Script() {
    }

    /** What all calls of a script answered; those that are not as due are told by the check. */
    static List<Long> play(Object x, String script, Check check, String name) {
        List<Long> answers = new ArrayList<>();
        for (String line : script.split("\n")) {
            for (String each : spread(line.trim())) {
                playLine(x, each, answers, check, name);
            }
        }
        return answers;
    }

    /** The lines for each of the numbers in a line's braces. */
    static List<String> spread(String line) {
        int open = line.indexOf('{');
        int shut = line.indexOf('}');
        if (open < 0 || shut < open || line.startsWith("say ") || line.startsWith("text ")) {
            return List.of(line);
        }
        List<String> lines = new ArrayList<>();
        for (String number : numbers(line.substring(open + 1, shut).trim())) {
            lines.addAll(spread(line.substring(0, open) + number + line.substring(shut + 1)));
        }
        return lines;
    }

    private static List<String> numbers(String text) {
        if (!text.contains(" .. ")) {
            return List.of(text.split(" +"));
        }
        String[] ends = text.split(" \\.\\. ");
        List<String> numbers = new ArrayList<>();
        for (int n = Integer.parseInt(ends[0]); n <= Integer.parseInt(ends[1]); n++) {
            numbers.add("" + n);
        }
        return numbers;
    }

    private static void playLine(Object x, String line, List<Long> answers, Check check, String name) {
        if (line.isEmpty()) {
            return;
        }
        int arrow = line.indexOf(" -> ");
        String call = arrow < 0 ? line : line.substring(0, arrow);
        int times = 1;
        int star = call.indexOf(" * ");
        if (star > 0 && !call.startsWith("say ") && !call.startsWith("text ")) {
            times = Integer.parseInt(call.substring(0, star));
            call = call.substring(star + 3);
        }
        long answer = 0;
        for (int n = 0; n < times; n++) {
            answer = playCall(x, call);
        }
        answers.add(answer);
        if (arrow >= 0) {
            String told = name + " | " + x.getClass().getSimpleName() + " | call " + answers.size() + ": " + line;
            check.due(told, answer, number(line.substring(arrow + 4).trim()));
        }
    }

    private static long playCall(Object x, String call) {
        if (call.startsWith("say ") || call.startsWith("text ")) {
            String text = call.substring(call.indexOf(' ') + 1).replace('_', ' ');
            long size = 0;
            for (int i = 0; i < text.length(); i++) {
                size = invoke(x, "feed", new String[] {"", "" + (int) text.charAt(i)});
            }
            return call.startsWith("say ") ? invoke(x, "fortress", new String[] {""}) : size;
        }
        String[] parts = call.split(" +");
        if (parts[0].equals("grains")) {
            for (int court = 0; court < parts.length - 1; court++) {
                invoke(x, "grain", new String[] {"", "" + court, parts[court + 1]});
            }
            return 0;
        }
        return invoke(x, parts[0], parts);
    }

    private static long number(String word) {
        Long named = NAMES.get(word);
        return named != null ? named : Long.parseLong(word);
    }

    private static long invoke(Object x, String name, String[] parts) {
        Method method = method(x.getClass(), name, parts.length - 1);
        Class<?>[] types = method.getParameterTypes();
        Object[] values = new Object[types.length];
        for (int i = 0; i < types.length; i++) {
            long value = number(parts[i + 1]);
            values[i] = types[i] == boolean.class ? (Object) (value != 0)
                : types[i] == long.class ? (Object) value : (Object) Math.toIntExact(value);
        }
        made++;
        try {
            return ((Number) method.invoke(x, values)).longValue();
        } catch (IllegalAccessException | InvocationTargetException e) {
            throw new IllegalStateException(name + " of " + x.getClass(), e);
        }
    }

    private static Method method(Class<?> of, String name, int count) {
        String key = of.getName() + " " + name + " " + count;
        if (!METHODS.containsKey(key)) {
            for (Method method : of.getDeclaredMethods()) {
                if (method.getName().equals(name) && method.getParameterCount() == count) {
                    METHODS.put(key, method);
                }
            }
        }
        if (!METHODS.containsKey(key)) {
            throw new IllegalArgumentException("no call " + key);
        }
        return METHODS.get(key);
    }
}
