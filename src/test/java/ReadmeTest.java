import java.io.IOException;
import java.lang.reflect.Field;
import java.lang.reflect.InvocationTargetException;
import java.lang.reflect.Method;
import java.lang.reflect.Modifier;
import java.nio.file.Files;
import java.nio.file.Path;
import java.util.ArrayList;
import java.util.Arrays;
import java.util.List;
import java.util.Map;
import java.util.TreeMap;
import java.util.regex.Matcher;
import java.util.regex.Pattern;

/** README.md is so: the calls that it shows answer as it says there, and its tables name all of the face. */
public final class ReadmeTest extends Due {
    private static final Pattern SHOWN = Pattern.compile("(?:int (\\w+) = )?x\\.(\\w+)\\((.*?)\\); *// (-?\\d+): .+");
    private static final Pattern ROW = Pattern.compile("\\| (\\d+) \\| `(\\w+)\\((.*?)\\)` \\| .+ \\|(.*) \\|");
    private static final Pattern CONSTANT = Pattern.compile("\\| `(\\w+)` \\| (-\\d+) \\| .+ \\|");
    /** What the document names at each promise, in its order. */
    private static final String[] REFUSALS = {"", "", "BAD FULL", "BAD NOT FULL", "BAD", "BAD", "BAD NOT", "BAD NOT FULL",
        "BAD", "BAD NOT", "BAD NOT FULL", "BAD NOT", "BAD FULL", "-20 less the place of the fault", "BAD", "BAD",
        "BAD FULL", "BAD FULL", "BAD", "BAD", "BAD", "BAD NONE", "BAD NONE", "", "NONE",
        "BAD NULL CAST INDEX NOT NONE", "BAD NULL CAST INDEX", "BAD SIZE", "BAD NULL", "BAD NULL CAST INDEX",
        "BAD NULL CAST INDEX"};

    public static void main(String[] args) throws IOException, IllegalAccessException, InvocationTargetException {
        List<String> lines = Files.readAllLines(Path.of("README.md"));
        shownCalls(lines);
        tableOfCalls(lines);
        tableOfConstants(lines);
        tests(lines);
        end();
    }

    /** All calls that are shown are made on one object, one behind the other. */
    private static void shownCalls(List<String> lines) throws IllegalAccessException, InvocationTargetException {
        CloudStrings x = new CloudStrings();
        Map<String, Integer> names = new TreeMap<>();
        int shown = 0;
        for (String line : lines) {
            Matcher m = SHOWN.matcher(line);
            if (!m.matches()) {
                due("not read: " + line, false, line.contains("x.") && line.contains(";"));
                continue;
            }
            shown++;
            int answer = call(x, m.group(2), m.group(3).split(", *"), names);
            due(line, Integer.parseInt(m.group(4)), answer);
            if (m.group(1) != null) {
                names.put(m.group(1), answer);
            }
        }
        due("calls are shown", true, shown > 20);
    }

    private static int call(CloudStrings x, String name, String[] words, Map<String, Integer> names)
            throws IllegalAccessException, InvocationTargetException {
        List<String> given = new ArrayList<>(Arrays.asList(words));
        given.remove("");
        Method method = methodOf(name);
        due(name + " has so many arguments", method.getParameterCount(), given.size());
        Object[] arguments = new Object[given.size()];
        for (int i = 0; i < arguments.length; i++) {
            String word = given.get(i);
            boolean isLong = method.getParameterTypes()[i] == long.class;
            due(word + " is written as what it is", isLong, word.endsWith("L"));
            long value = names.containsKey(word) ? names.get(word) : Long.decode(word.replace("L", ""));
            if (isLong) {
                arguments[i] = value;
            } else {
                arguments[i] = (int) value;
            }
        }
        return (int) method.invoke(x, arguments);
    }

    private static Method methodOf(String name) {
        for (Method m : CloudStrings.class.getDeclaredMethods()) {
            if (Modifier.isPublic(m.getModifiers()) && m.getName().equals(name)) {
                return m;
            }
        }
        throw new IllegalStateException("no call " + name);
    }

    private static void tableOfCalls(List<String> lines) {
        int due = 2;
        for (String line : lines) {
            Matcher m = ROW.matcher(line);
            if (!m.matches()) {
                continue;
            }
            promise = due;
            due("the promises in their order", due, Integer.parseInt(m.group(1)));
            int arguments = m.group(3).isEmpty() ? 0 : m.group(3).split(", ").length;
            due("arguments of " + m.group(2), methodOf(m.group(2)).getParameterCount(), arguments);
            due(m.group(2) + " is refused by " + REFUSALS[due], true, m.group(4).trim().equals(REFUSALS[due]));
            due++;
        }
        due("all promises", 31, due);
    }

    private static void tableOfConstants(List<String> lines) throws IllegalAccessException {
        Map<String, Integer> told = new TreeMap<>();
        for (String line : lines) {
            Matcher m = CONSTANT.matcher(line);
            if (m.matches()) {
                told.put(m.group(1), Integer.parseInt(m.group(2)));
            }
        }
        int seen = 0;
        for (Field f : CloudStrings.class.getDeclaredFields()) {
            if (Modifier.isPublic(f.getModifiers())) {
                seen++;
                due(f.getName() + " is told", true, told.containsKey(f.getName()));
                due(f.getName(), f.getInt(null), told.getOrDefault(f.getName(), 0));
            }
        }
        due("constants", told.size(), seen);
    }

    private static void tests(List<String> lines) throws IOException {
        String all = String.join("\n", lines);
        String[] files = Path.of("src/test/java").toFile().list();
        due("tests are there", true, files != null && files.length > 10);
        for (String file : files) {
            String name = file.replace(".java", "");
            due(name + " is told", true, all.contains("`" + name + "`"));
        }
    }
}
