import java.io.File;
import java.net.URL;
import java.net.URLClassLoader;
import java.nio.file.Files;
import java.nio.file.Path;
import java.util.ArrayList;
import java.util.List;
import java.util.regex.Matcher;
import java.util.regex.Pattern;
import javax.tools.ToolProvider;

/**
 * README.md as a program: its pieces of Java are compiled and run, and each answer that stands behind
 * a call is compared. It is run in the project's folder.
 */
public final class ReadmeTests {
    private static final Pattern PIECE = Pattern.compile("(?ms)^```java\n(.*?)^```$");
    private static final Pattern TOLD = Pattern.compile("(\\w.*\\));\\s+// (.+)");
    private static final String THROWS = "throws ";

    public static void main(String[] args) throws Exception {
        String page = Files.readString(Path.of("README.md"));
        StringBuilder functions = new StringBuilder();
        StringBuilder body = new StringBuilder();
        for (String piece : pieces(page)) {
            if (piece.contains("static ")) {
                functions.append(piece);
            } else {
                body.append(program(piece));
            }
        }
        compare(answers(functions.toString(), body.toString()), toldIn(page));
        methodsNamed(page);
        testsNamed(page);
        Due.finish();
    }

    private static List<String> pieces(String page) {
        List<String> pieces = new ArrayList<>();
        Matcher m = PIECE.matcher(page);
        while (m.find()) {
            pieces.add(m.group(1));
        }
        return pieces;
    }

    /** The calls of the page that tell an answer, as "call; // answer". */
    private static List<String> toldIn(String page) {
        List<String> told = new ArrayList<>();
        for (String piece : pieces(page)) {
            for (String line : piece.split("\n")) {
                if (TOLD.matcher(line).matches()) {
                    told.add(line.replaceAll("\\s+//", " //"));
                }
            }
        }
        return told;
    }

    /** The lines of a piece; a call that tells an answer notes what it answers, or throws, in its place. */
    private static String program(String piece) {
        StringBuilder program = new StringBuilder();
        for (String line : piece.split("\n")) {
            Matcher m = TOLD.matcher(line);
            if (!m.matches()) {
                program.append(line).append('\n');
                continue;
            }
            String call = m.group(1);
            boolean isVoid = call.startsWith("line.truncate(");
            program.append("try { ");
            program.append(isVoid ? call + "; note(\"nothing\");" : "note(shown(" + call + "));");
            program.append(" } catch (RuntimeException e) { note(\"" + THROWS + "\" + e.getClass().getSimpleName()); }\n");
        }
        return program.toString();
    }

    /** Compiles and runs the page; what its calls answered, in their order. */
    private static List<String> answers(String functions, String body) throws Exception {
        Path folder = Files.createTempDirectory("readme");
        Path source = folder.resolve("Readme.java");
        Files.writeString(source, "public final class Readme {\n"
                + "private static final java.util.List<String> notes = new java.util.ArrayList<>();\n"
                + "private static void note(String text) { notes.add(text); }\n"
                + "private static String shown(Object got) { return got instanceof String ? \"\\\"\" + got + \"\\\"\" : \"\" + got; }\n"
                + functions + "public static java.util.List<String> run() {\n" + body + "return notes;\n}\n}\n");
        try {
            List<String> answers = new ArrayList<>();
            int failed = ToolProvider.getSystemJavaCompiler().run(null, null, null, "-d", folder.toString(),
                    "-cp", System.getProperty("java.class.path"), source.toString());
            Due.is("errors of javac in the page's program", failed, 0);
            URL[] place = {folder.toUri().toURL()};
            try (URLClassLoader loader = new URLClassLoader(place, ReadmeTests.class.getClassLoader())) {
                Object got = loader.loadClass("Readme").getMethod("run").invoke(null);
                for (Object answer : (List<?>) got) {
                    answers.add((String) answer);
                }
            }
            return answers;
        } finally {
            for (File file : folder.toFile().listFiles()) {
                file.delete();
            }
            folder.toFile().delete();
        }
    }

    private static void compare(List<String> answers, List<String> told) {
        Due.is("answers of the page", answers.size(), told.size());
        Due.is("more than eighty answers", told.size() > 80 ? 1 : 0, 1);
        for (int i = 0; i < Math.min(answers.size(), told.size()); i++) {
            Matcher m = TOLD.matcher(told.get(i));
            Due.is("README.md: " + told.get(i), answers.get(i), m.matches() ? m.group(2) : "");
        }
    }

    /** A reader finds an example of most methods; the others are at least named. */
    private static void methodsNamed(String page) {
        for (java.lang.reflect.Method method : LineBalls.class.getDeclaredMethods()) {
            if (java.lang.reflect.Modifier.isPublic(method.getModifiers())) {
                Due.is("README.md tells of " + method.getName(), page.contains(method.getName() + "(") ? 1 : 0, 1);
            }
        }
    }

    private static void testsNamed(String page) {
        for (String file : new File("src/test/java").list()) {
            if (file.endsWith("Tests.java")) {
                String name = "`" + file.replace(".java", "") + "`";
                Due.is("README.md tells of " + name, page.contains(name) ? 1 : 0, 1);
            }
        }
    }
}
