import java.io.File;
import java.lang.reflect.Method;
import java.net.URL;
import java.net.URLClassLoader;
import java.nio.file.Files;
import java.nio.file.Path;
import java.util.ArrayList;
import java.util.List;
import java.util.regex.Matcher;
import java.util.regex.Pattern;

/** The calls that README.md shows answer as it says: its blocks are compiled as one run, and run. */
public final class ReadmeTest {
    /** A statement, and behind it, where it answers something, the answer. */
    private static final Pattern SHOWN =
            Pattern.compile("(?:\\w+ (\\w+) = )?(.*?);\\s*(?://\\s*(?:(-?\\d+|true|false|\\w+Exception)(?::.*)?|.*))?");

    private static final List<String> calls = new ArrayList<>();
    private static final List<String> answers = new ArrayList<>();
    private static final StringBuilder run = new StringBuilder();

    public static void main(String[] args) throws Exception {
        List<String> readme = Files.readAllLines(Path.of("README.md"));
        readCalls(readme);
        List<?> got = runCalls();
        Check.due("calls that answered", got.size(), answers.size());
        for (int i = 0; i < got.size(); i++) {
            boolean same = answers.get(i).equals(got.get(i));
            Check.due("README.md: " + calls.get(i) + " // " + answers.get(i) + ", got " + got.get(i), same, true);
        }
        showsEachMethod();
        tellsOfTests(String.join("\n", readme));
        Check.end("ReadmeTest");
    }

    private static void readCalls(List<String> readme) {
        boolean inside = false;
        for (String line : readme) {
            if (line.startsWith("```")) inside = line.equals("```java");
            else if (inside && !line.isBlank()) readCall(line);
        }
    }

    private static void readCall(String line) {
        Matcher shown = SHOWN.matcher(line);
        if (!shown.matches()) {
            Check.fail("README.md: no statement: " + line);
            return;
        }
        String name = shown.group(1);
        String call = shown.group(2);
        String answer = shown.group(3);
        if (answer == null) {
            boolean silent = call.equals("new Stripboard()") || call.startsWith("film.light(");
            Check.due("README.md: has no answer: " + call, silent, true);
            run.append(line.replaceAll("//.*", "")).append('\n');
            return;
        }
        calls.add(call);
        answers.add(answer);
        if (name != null) {
            run.append("int ").append(name).append(" = ").append(call).append(";\n");
            run.append("told.add(\"\" + ").append(name).append(");\n");
        } else {
            run.append("try { told.add(\"\" + ").append(call).append("); }");
            run.append(" catch (RuntimeException e) { told.add(e.getClass().getSimpleName()); }\n");
        }
    }

    private static List<?> runCalls() throws Exception {
        Path directory = Files.createTempDirectory("readme");
        Path file = directory.resolve("ReadmeRun.java");
        Path made = directory.resolve("ReadmeRun.class");
        Files.writeString(file, "public final class ReadmeRun {\n"
                + "public static java.util.List<String> run() {\n"
                + "java.util.List<String> told = new java.util.ArrayList<>();\n" + run + "return told;\n}\n}\n");
        String classes = System.getProperty("java.class.path");
        int failed = new ProcessBuilder("javac", "-cp", classes, "-d", directory.toString(), file.toString())
                .inheritIO().start().waitFor();
        Check.due("README.md compiles", failed, 0);
        if (failed != 0) return List.of();
        try (URLClassLoader loader = new URLClassLoader(new URL[] {directory.toUri().toURL()})) {
            Method method = loader.loadClass("ReadmeRun").getMethod("run");
            return (List<?>) method.invoke(null);
        } finally {
            Files.deleteIfExists(made);
            Files.deleteIfExists(file);
            Files.deleteIfExists(directory);
        }
    }

    private static void showsEachMethod() {
        for (Method method : Stripboard.class.getMethods()) {
            if (method.getDeclaringClass() != Stripboard.class) continue;
            boolean shown = run.indexOf("film." + method.getName() + "(") >= 0;
            Check.due("README.md shows " + method.getName(), shown, true);
        }
    }

    private static void tellsOfTests(String readme) {
        File[] files = new File("src/test/java").listFiles();
        Check.due("there are tests", files != null && files.length > 0, true);
        if (files == null) return;
        int tests = 0;
        for (File file : files) {
            String name = file.getName().replace(".java", "");
            if (!name.endsWith("Test")) continue;
            tests++;
            Check.due("README.md tells of " + name, readme.contains("\n| `" + name + "` | "), true);
        }
        Check.due("README.md tells of no test that there is not", readme.split("\n\\| `\\w+Test` \\| ").length - 1, tests);
        Check.due("README.md says how to run them", readme.contains("\n    .ci/run\n"), true);
    }
}
