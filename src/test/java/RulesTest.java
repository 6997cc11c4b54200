import java.io.IOException;
import java.nio.file.Files;
import java.nio.file.Path;
import java.util.List;
import java.util.regex.Pattern;

/** What of LANGUAGE.md can be seen from the text of Stripboard.java. */
public final class RulesTest {
    private static final List<String> FORBIDDEN = List.of(
            "->", "::", "Exact\\s*\\(", "\\bfinally\\b", "\\bsynchronized\\b", "\\bassert\\b", "\\bcatch\\b", "\\btry\\b",
            "\\bpackage\\b", "\\bprotected\\b", "\\bSystem\\.(?!arraycopy)", "\\bRandom\\b", "\\bThread\\b", "\\bvar\\b",
            "\\bString\\.", "\\bStream\\b", "\\bMap\\b", "\\bSet\\b", "\\bOptional\\b", "\\bhashCode\\b", "\\btoString\\b",
            "\\bwhile\\s*\\(true\\)", "\\+\\s*\"", "\"\\s*\\+", "\\bstatic\\s*\\{", "\\b(double|float)\\b", "@SuppressWarnings");

    public static void main(String[] args) throws IOException {
        List<String> lines = Files.readAllLines(Path.of(args.length > 0 ? args[0] : "src/main/java/Stripboard.java"));
        String text = String.join("\n", lines);
        plainSigns(text);
        forbidden(lines);
        imports(lines);
        methodLengths(lines);
        whereThingsAreMade(lines);
        Check.end("RulesTest");
    }

    private static void plainSigns(String text) {
        boolean plain = text.chars().allMatch(c -> c == '\n' || c >= 32 && c < 127);
        Check.due("plain signs alone", plain, true);
    }

    private static void forbidden(List<String> lines) {
        for (String pattern : FORBIDDEN) {
            Pattern compiled = Pattern.compile(pattern);
            int found = 0;
            for (String line : lines) {
                if (compiled.matcher(withoutComment(line)).find()) found++;
            }
            Check.due("lines with " + pattern, found, 0);
        }
    }

    private static String withoutComment(String line) {
        String trimmed = line.trim();
        if (trimmed.startsWith("*") || trimmed.startsWith("/*")) return "";
        int comment = line.indexOf("//");
        return comment < 0 ? line : line.substring(0, comment);
    }

    private static void imports(List<String> lines) {
        for (String line : lines) {
            if (!line.startsWith("import ")) continue;
            boolean listed = List.of("import java.util.Arrays;", "import java.util.ArrayList;", "import java.util.List;",
                    "import java.util.Iterator;", "import java.util.NoSuchElementException;").contains(line);
            Check.due(line, listed, true);
        }
    }

    /** A method begins at a line that opens a brace at the depth of members, and ends with the brace at that depth. */
    private static void methodLengths(List<String> lines) {
        int begin = -1;
        String end = "";
        for (int i = 0; i < lines.size(); i++) {
            String line = lines.get(i);
            boolean opens = line.matches("( {4}| {8}| {12,16}throws ).*\\{") && !line.contains(" class ");
            if (begin < 0 && opens) {
                begin = i;
                end = line.startsWith("        ") && !line.trim().startsWith("throws") ? "        }" : "    }";
            }
            if (begin >= 0 && line.equals(end)) {
                Check.due("length of the method at line " + (begin + 1), i - begin < 60, true);
                begin = -1;
            }
        }
    }

    /** Things are made by constructors and as fields alone, so that a run keeps its room. */
    private static void whereThingsAreMade(List<String> lines) {
        int made = 0;
        for (String line : lines) {
            String code = withoutComment(line).replaceAll("throw new \\w+\\(\"[^\"+]*\"\\);", "");
            if (!code.contains("new ")) continue;
            boolean field = code.trim().startsWith("final ");
            boolean inConstructor = code.matches(" +(for \\(int i = 0; i < \\w+; i\\+\\+\\) )?\\w+(\\[i\\])? = new .*");
            Check.due("made by a constructor: " + code.trim(), field || inConstructor, true);
            made++;
        }
        Check.due("something is made", made > 0, true);
    }
}
