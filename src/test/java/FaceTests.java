import java.lang.reflect.Constructor;
import java.lang.reflect.Field;
import java.lang.reflect.Method;
import java.lang.reflect.Modifier;
import java.nio.file.Files;
import java.nio.file.Path;
import java.util.ArrayList;
import java.util.Arrays;
import java.util.List;
import java.util.TreeSet;
import java.util.regex.Matcher;
import java.util.regex.Pattern;

/**
 * The public face as the document writes it, and of LANGUAGE.md what can be seen in the source
 * without understanding it. It is run in the project's folder.
 */
public final class FaceTests {
    private static final String SOURCE = "src/main/java/LineBalls.java";
    private static final String DOCUMENT = "../shared/DOC.md";

    public static void main(String[] args) throws Exception {
        face();
        constants();
        String source = Files.readString(Path.of(SOURCE));
        members();
        nested();
        words(source);
        catches(source);
        methodLengths(source);
        promisesTested();
        Due.finish();
    }

    /** Each line of the document's face between the braces, as Java tells of it. */
    private static void face() throws Exception {
        String document = Files.readString(Path.of(DOCUMENT));
        String block = document.substring(document.indexOf("public final class LineBalls {"));
        block = block.substring(0, block.indexOf("\n}"));
        TreeSet<String> due = new TreeSet<>();
        Matcher m = Pattern.compile("public (\\w+) (\\w+)\\(([^)]*)\\)( throws ([^;]*))?;").matcher(block);
        while (m.find()) {
            String types = m.group(3).replaceAll("(\\w+) \\w+", "$1");
            due.add(m.group(1) + " " + m.group(2) + "(" + types + ") " + (m.group(5) == null ? "" : m.group(5)));
        }
        TreeSet<String> got = new TreeSet<>();
        for (Method method : LineBalls.class.getDeclaredMethods()) {
            if (Modifier.isPublic(method.getModifiers())) {
                got.add(method.getReturnType().getSimpleName() + " " + method.getName() + "("
                        + names(method.getParameterTypes()) + ") " + names(method.getExceptionTypes()));
                Due.is("static " + method.getName(), Modifier.isStatic(method.getModifiers()) ? 1 : 0, 0);
            }
        }
        Due.is("number of methods", got.size(), 54);
        Due.is("the public methods", got.toString(), due.toString());
        Constructor<?>[] constructors = LineBalls.class.getDeclaredConstructors();
        Due.is("constructors", constructors.length, 1);
        Due.is("constructor", constructors[0].toString(), "public LineBalls()");
    }

    private static String names(Class<?>[] types) {
        List<String> names = new ArrayList<>();
        Arrays.stream(types).forEach(type -> names.add(type.getSimpleName()));
        return String.join(", ", names);
    }

    private static void constants() {
        Due.is("NONE", LineBalls.NONE, -1);
        Due.is("PARSE_ERROR", LineBalls.PARSE_ERROR, -4);
        Due.is("NO_SPEED", LineBalls.NO_SPEED, -100);
    }

    /** Rules 1 and 5. */
    private static void members() {
        TreeSet<String> open = new TreeSet<>();
        for (Method method : LineBalls.class.getDeclaredMethods()) {
            if (Modifier.isPublic(method.getModifiers())) {
                open.add(method.getName());
            }
        }
        for (Method method : LineBalls.class.getDeclaredMethods()) {
            if (!Modifier.isPublic(method.getModifiers())) {
                Due.is("private " + method.getName(), Modifier.isPrivate(method.getModifiers()) ? 1 : 0, 1);
                Due.is("a name of its own: " + method.getName(), open.contains(method.getName()) ? 1 : 0, 0);
            }
            Due.is("parameters of " + method.getName(), method.getParameterCount() <= 7 ? 1 : 0, 1);
        }
        TreeSet<String> fields = new TreeSet<>();
        for (Field field : LineBalls.class.getDeclaredFields()) {
            int modifiers = field.getModifiers();
            if (Modifier.isPublic(modifiers)) {
                fields.add(field.getName());
            } else {
                Due.is("private " + field.getName(), Modifier.isPrivate(modifiers) ? 1 : 0, 1);
            }
            Due.is("static is final: " + field.getName(),
                    !Modifier.isStatic(modifiers) || Modifier.isFinal(modifiers) ? 1 : 0, 1);
        }
        Due.is("public constants", fields.toString(), "[NONE, NO_SPEED, PARSE_ERROR]");
    }

    /** Rules 2 and 11. */
    private static void nested() {
        Class<?>[] classes = LineBalls.class.getDeclaredClasses();
        Due.is("at most twelve classes", classes.length <= 11 ? 1 : 0, 1);
        for (Class<?> one : classes) {
            Due.is("static " + one.getSimpleName(), Modifier.isStatic(one.getModifiers()) ? 1 : 0, 1);
            Due.is("not public " + one.getSimpleName(), Modifier.isPublic(one.getModifiers()) ? 1 : 0, 0);
            int fields = 0;
            for (Field field : one.getDeclaredFields()) {
                fields += Modifier.isStatic(field.getModifiers()) ? 0 : 1;
                Due.is("static is final: " + field.getName(),
                        !Modifier.isStatic(field.getModifiers()) || Modifier.isFinal(field.getModifiers()) ? 1 : 0, 1);
            }
            Due.is("fields of " + one.getSimpleName(), fields <= 20 ? 1 : 0, 1);
        }
    }

    /** Words that the part of Java has not. */
    private static void words(String source) {
        String code = source.replaceAll("(?s)/\\*.*?\\*/", "").replaceAll("//[^\n]*", "");
        String[] none = {"->", "::", "\\bassert\\b", "\\bsynchronized\\b", "\\bfinally\\b", "\\bcatch\\b", "\\btry\\b",
            "\\bpackage\\b", "\\bvar\\b", "Exact\\(", "Math\\.random", "System\\.(?!arraycopy)", "\\bMap\\b",
            "\\bThread\\b", "\\.hashCode\\(", "\\.equals\\(", "instanceof", "getMessage", "java\\.(?!util\\.NoSuchElementException;)"};
        for (String pattern : none) {
            Matcher m = Pattern.compile(pattern).matcher(code);
            Due.is("the source has no " + pattern, m.find() ? m.group() : "", "");
        }
        Due.is("signs up to 126", source.chars().allMatch(c -> c == '\n' || c >= 32 && c < 127) ? 1 : 0, 1);
    }

    private static void catches(String source) {
        Matcher m = Pattern.compile("throw new (\\w+)\\(\\)").matcher(source);
        TreeSet<String> thrown = new TreeSet<>();
        while (m.find()) {
            thrown.add(m.group(1));
        }
        Due.is("what is thrown", thrown.toString(), "[IllegalArgumentException, IllegalStateException, "
                + "IndexOutOfBoundsException, NoSuchElementException]");
    }

    /** Each promise and each section of the terms is named by a check of its boundaries. */
    private static void promisesTested() throws Exception {
        StringBuilder edges = new StringBuilder();
        for (String name : new String[] {"Input", "State", "Foresight", "Pulse", "Change", "Output"}) {
            edges.append(Files.readString(Path.of("src/test/java/Edge" + name + "Tests.java")));
        }
        Matcher m = Pattern.compile("(?m)^## Promise (\\d+):").matcher(Files.readString(Path.of(DOCUMENT)));
        int promises = 0;
        while (m.find()) {
            promises++;
            namedByACheck(edges.toString(), "P" + m.group(1));
        }
        Due.is("promises of the document", promises, 55);
        for (String section : new String[] {"T1", "T2", "T3", "T4", "TE"}) {
            namedByACheck(edges.toString(), section);
        }
    }

    private static void namedByACheck(String tests, String name) {
        boolean named = Pattern.compile("\"[^\"\n]*\\b" + name + "\\b").matcher(tests).find();
        Due.is("a check of the boundaries of " + name, named ? 1 : 0, 1);
    }

    /** Rule 11: short methods, by the lines between a head and the brace that closes it. */
    private static void methodLengths(String source) {
        String[] lines = source.split("\n");
        for (int i = 0; i < lines.length; i++) {
            Matcher m = Pattern.compile("^( {4}| {8})(?!if|for|while|switch)\\w[\\w\\[\\] ]+\\([^;]*[{)]$").matcher(lines[i]);
            if (m.find()) {
                int end = i;
                while (!lines[end].equals(m.group(1) + "}")) {
                    end++;
                }
                Due.is("a short method: " + lines[i].trim(), end - i <= 60 ? 1 : 0, 1);
            }
        }
    }
}
