import java.io.IOException;
import java.net.URL;
import java.net.URLClassLoader;
import java.nio.file.Files;
import java.nio.file.Path;
import java.util.ArrayList;
import java.util.List;
import java.util.regex.Matcher;
import java.util.regex.Pattern;
import javax.tools.ToolProvider;

/**
 * What README.md says is so: its lines of Java are compiled and run, each that says "// answers" or "// throws" must do
 * that, and each test of the project is named there.
 */
public final class ReadmeTest {
    private static final Path README = Path.of("README.md");
    private static final Path TESTS = Path.of("src", "test", "java");
    private static final Path BUILT = Path.of("build", "readme");
    private static final Pattern DECLARES = Pattern.compile("(\\w+ )(\\w+)( = .*)");
    private static final Pattern SAYS = Pattern.compile("(.*);\\s*// (answers|throws) ([^:]+?)(:.*)?");
    private static final Pattern NAMES_A_TEST = Pattern.compile("\\b(\\w+Test)\\b");

    private ReadmeTest() {
    }

    public static void main(String[] args) throws IOException, ReflectiveOperationException {
        List<String> readme = Files.readAllLines(README);
        linesAnswer(linesOfJava(readme));
        testsAreNamed(String.join("\n", readme));
        Check.end();
    }

    private static List<String> linesOfJava(List<String> readme) {
        List<String> lines = new ArrayList<>();
        boolean inside = false;
        for (String line : readme) {
            if (line.startsWith("```")) {
                inside = line.equals("```java");
            } else if (inside) {
                lines.add(line.strip());
            }
        }
        return lines;
    }

    private static void linesAnswer(List<String> lines) throws IOException, ReflectiveOperationException {
        Files.createDirectories(BUILT);
        Path source = BUILT.resolve("ReadmeLines.java");
        Files.writeString(source, program(lines));
        String path = System.getProperty("java.class.path");
        int exit = ToolProvider.getSystemJavaCompiler().run(null, null, null,
            "--release", "17", "-encoding", "UTF-8", "-cp", path, "-d", BUILT.toString(), source.toString());
        Check.is("compiling the lines of README.md", exit, 0);
        if (exit != 0) {
            return;
        }
        try (URLClassLoader loader = new URLClassLoader(new URL[] {BUILT.toUri().toURL()})) {
            String[][] answers = (String[][]) loader.loadClass("ReadmeLines").getMethod("run").invoke(null);
            Check.is("lines of README.md that say what they answer", answers.length > 0, true);
            for (String[] answer : answers) {
                Check.is("README.md: " + answer[0], answer[1], answer[2]);
            }
        }
    }

    /** A class whose run() answers of each line that says so: the line, what it did, and what it should do. */
    private static String program(List<String> lines) {
        StringBuilder text = new StringBuilder("public final class ReadmeLines {\n");
        text.append("private interface Line { void run(); }\n");
        text.append("private static String thrown(Line line) {\n");
        text.append("try { line.run(); } catch (RuntimeException e) { return e.getClass().getSimpleName(); }\n");
        text.append("return \"nothing\"; }\n");
        text.append("public static String[][] run() {\n");
        text.append("java.util.List<String[]> all = new java.util.ArrayList<>();\n");
        for (String line : lines) {
            text.append(statement(line)).append('\n');
        }
        return text.append("return all.toArray(new String[0][]);\n}\n}\n").toString();
    }

    private static String statement(String line) {
        Matcher says = SAYS.matcher(line);
        if (!says.matches()) {
            return line;
        }
        String call = says.group(1);
        String due = says.group(3);
        String name = call.replace("\\", "\\\\").replace("\"", "\\\"");
        if (says.group(2).equals("throws")) {
            return "all.add(new String[] {\"" + name + "\", thrown(() -> " + call + "), \"" + due + "\"});";
        }
        Matcher declares = DECLARES.matcher(call);
        boolean keeps = declares.matches();
        String got = keeps ? declares.group(2) : call;
        return (keeps ? call + "; " : "")
            + "all.add(new String[] {\"" + name + "\", String.valueOf(" + got + "), String.valueOf(" + due + ")});";
    }

    private static void testsAreNamed(String readme) throws IOException {
        List<String> there = new ArrayList<>();
        try (var files = Files.list(TESTS)) {
            files.map(file -> file.getFileName().toString()).filter(name -> name.endsWith("Test.java"))
                .forEach(name -> there.add(name.substring(0, name.length() - ".java".length())));
        }
        List<String> named = new ArrayList<>();
        Matcher names = NAMES_A_TEST.matcher(readme);
        while (names.find()) {
            named.add(names.group(1));
        }
        for (String test : there) {
            Check.is("README.md names " + test, named.contains(test), true);
        }
        for (String test : named) {
            Check.is("there is a " + test + ", as README.md says", there.contains(test), true);
        }
    }
}
