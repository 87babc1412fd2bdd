import java.io.IOException;
import java.lang.reflect.Constructor;
import java.lang.reflect.Field;
import java.lang.reflect.Method;
import java.lang.reflect.Modifier;
import java.nio.file.Files;
import java.nio.file.Path;
import java.util.ArrayList;
import java.util.Arrays;
import java.util.List;
import java.util.TreeSet;
import java.util.regex.Matcher;
import java.util.regex.Pattern;

/** The face of the class, word for word, and those rules of LANGUAGE.md that can be seen in its text. */
public final class RulesTest extends Due {
    private static final String[] FACE = {
        "cloud int int int", "village int int int", "told int int", "of int int", "set int int int",
        "hold int int int", "holds int int", "join int int", "split int int", "salt int", "type long int", "winds",
        "fallen int", "count int", "pass int", "drawn int", "seed int", "wet int int", "where int int int",
        "fewest int int int", "tug int int int int", "image", "restore", "held int int int int int",
        "film int int int int", "sheet int int int", "drop int", "item int int int long",
        "copy int int int int int"};
    private static final String[] CONSTANTS = {"BAD", "NOT", "FULL", "NONE", "NULL", "CAST", "INDEX", "SIZE"};
    private static final int[] VALUES = {-1, -2, -3, -4, -11, -12, -13, -14};
    private static final String[] NOT_ALLOWED = {"->", "::", "\\bthrow\\b", "\\bcatch\\b", "\\btry\\b", "\\bfinally\\b",
        "\\bsynchronized\\b", "\\bassert\\b", "\\binstanceof\\b", "\\bvar\\b", "\\bObject\\b", "\\bnative\\b",
        "Integer\\.MAX", "Integer\\.MIN", "Long\\.M", "Exact\\(", "System\\.(?!arraycopy\\()",
        "Arrays\\.(?!fill\\()", "Math\\.(?!min\\(|max\\()", "\\bstatic \\{", "@"};

    public static void main(String[] args) throws IOException {
        members();
        constants();
        text(Files.readString(Path.of("src/main/java/CloudStrings.java")));
        end();
    }

    private static void members() {
        due("modifiers", Modifier.PUBLIC | Modifier.FINAL, CloudStrings.class.getModifiers());
        TreeSet<String> names = new TreeSet<>();
        TreeSet<String> seen = new TreeSet<>();
        for (Method m : CloudStrings.class.getDeclaredMethods()) {
            if (Modifier.isPrivate(m.getModifiers())) {
                continue;
            }
            StringBuilder told = new StringBuilder(m.getName());
            for (Class<?> type : m.getParameterTypes()) {
                told.append(' ').append(type.getName());
            }
            seen.add(told.toString());
            names.add(m.getName());
            due(told + " is public alone", Modifier.PUBLIC, m.getModifiers());
            due(told + " answers an int", true, m.getReturnType() == int.class);
        }
        due("the methods of the face", true, seen.equals(new TreeSet<>(Arrays.asList(FACE))));
        for (Class<?> inside : CloudStrings.class.getDeclaredClasses()) {
            due(inside + " is static", true, Modifier.isStatic(inside.getModifiers()));
            due(inside + " is not public", false, Modifier.isPublic(inside.getModifiers()));
            for (Method m : inside.getDeclaredMethods()) {
                due(m + " has a name of its own", false, names.contains(m.getName()));
            }
            due(inside + " has some twenty fields", true, ownFields(inside) <= 20);
        }
        for (Method m : CloudStrings.class.getDeclaredMethods()) {
            boolean isPrivate = Modifier.isPrivate(m.getModifiers());
            due(m + " has a name of its own", false, isPrivate && names.contains(m.getName()));
        }
        due("classes inside", true, CloudStrings.class.getDeclaredClasses().length <= 12);
        for (Constructor<?> c : CloudStrings.class.getDeclaredConstructors()) {
            due("public constructor", Modifier.PUBLIC, c.getModifiers());
            due("without arguments", 0, c.getParameterCount());
        }
    }

    private static int ownFields(Class<?> inside) {
        int own = 0;
        for (Field f : inside.getDeclaredFields()) {
            own += Modifier.isStatic(f.getModifiers()) ? 0 : 1;
            due(f + " is final, if static", true, Modifier.isFinal(f.getModifiers()) || !Modifier.isStatic(f.getModifiers()));
        }
        return own;
    }

    private static void constants() {
        int[] values = {CloudStrings.BAD, CloudStrings.NOT, CloudStrings.FULL, CloudStrings.NONE, CloudStrings.NULL,
            CloudStrings.CAST, CloudStrings.INDEX, CloudStrings.SIZE};
        TreeSet<String> seen = new TreeSet<>();
        for (Field f : CloudStrings.class.getDeclaredFields()) {
            if (!Modifier.isPrivate(f.getModifiers())) {
                seen.add(f.getName());
                due(f + "", Modifier.PUBLIC | Modifier.STATIC | Modifier.FINAL, f.getModifiers());
                due(f + " is an int", true, f.getType() == int.class);
            }
        }
        due("the constants of the face", true, seen.equals(new TreeSet<>(Arrays.asList(CONSTANTS))));
        for (int i = 0; i < VALUES.length; i++) {
            due(CONSTANTS[i], VALUES[i], values[i]);
        }
        due("fields of the class itself", true, ownFields(CloudStrings.class) <= 20);
    }

    private static void text(String text) {
        String code = text.replaceAll("(?s)/\\*.*?\\*/", "").replaceAll("//[^\n]*", "").replaceAll("'.'", "' '");
        for (String pattern : NOT_ALLOWED) {
            due(pattern, false, Pattern.compile(pattern).matcher(code).find());
        }
        due("no text is joined by +", false, code.contains("\""));
        due("one import", true, code.startsWith("import java.util.Arrays;\n") && code.indexOf("import", 1) < 0);
        for (int i = 0; i < text.length(); i++) {
            if (text.charAt(i) > 126) {
                due("sign at " + i, 0, text.charAt(i));
            }
        }
        String[] lines = code.split("\n");
        for (String line : lines) {
            boolean isOfConstructor = line.contains("private final") || line.matches(" {8}final .*");
            due("calls make no objects: " + line.trim(), false, line.contains("new ") && !isOfConstructor);
            due("while has no bound: " + line.trim(), false, line.contains("while"));
        }
        lengths(lines);
        parameters(code);
    }

    private static void lengths(String[] lines) {
        List<Integer> starts = new ArrayList<>();
        for (int i = 0; i < lines.length; i++) {
            if (lines[i].matches(" {4}( {4})?[a-z].*\\(.*\\{") && !lines[i].trim().startsWith("for")) {
                starts.add(i);
            }
            if (lines[i].matches(" {4}( {4})?}") && !starts.isEmpty()) {
                int length = i - starts.get(starts.size() - 1);
                due("lines from " + lines[starts.get(starts.size() - 1)].trim(), true, length <= 60 || lines[i].length() == 5);
            }
        }
        due("methods were seen", true, starts.size() > 29);
    }

    private static void parameters(String code) {
        Matcher heads = Pattern.compile("\\b(?:int|void|boolean)(?:\\[\\])? \\w+\\(([^)]*)\\)\\s*\\{").matcher(code);
        int seen = 0;
        while (heads.find()) {
            seen++;
            due("parameters: " + heads.group(1), true, heads.group(1).split(",").length <= 7);
        }
        due("heads were seen", true, seen > 60);
    }
}
