import java.io.IOException;
import java.nio.file.Files;
import java.nio.file.Path;
import java.util.regex.Matcher;
import java.util.regex.Pattern;

/** Those rules of LANGUAGE.md that can be seen in the text of the source. */
final class SourceTest {
    private static final String[] FORBIDDEN = {
        "\\btry\\b", "\\bcatch\\b", "\\bfinally\\b", "\\bsynchronized\\b", "\\bassert\\b", "->", "::",
        "\\bstatic\\s*\\{", "\\bpackage\\b", "\\bprotected\\b", "Exact\\b", "\\bimport\\s+static\\b",
        "\\bSystem\\.(?!arraycopy)", "\\bMath\\.(?!max|min)", "\\bThread\\b", "\\bRandom\\b",
        "\\.(equals|hashCode|toString)\\b", "\\bgetMessage\\b", "\"\\s*\\+", "\\+\\s*\"",
    };
    private static final int MAX_METHOD_LINES = 60;

    static void run(Check check, Path path) throws IOException {
        String source = Files.readString(path);
        String code = source.replaceAll("(?s)/\\*.*?\\*/", "").replaceAll("//[^\n]*", "");
        for (String pattern : FORBIDDEN) {
            check.same("source: " + pattern, Pattern.compile(pattern).matcher(code).find(), false);
        }
        Matcher imports = Pattern.compile("\\bimport\\s+([^;]+);").matcher(code);
        while (imports.find()) {
            check.same("source: import", imports.group(1), "java.util.NoSuchElementException");
        }
        check.same("source: ASCII alone", source.chars().allMatch(c -> c < 128), true);
        rowsAreMadeInConstructors(check, code);
        methodsAreShort(check, code);
    }

    /** Behind "new" stands an exception that is thrown, or a field gets its row. */
    private static void rowsAreMadeInConstructors(Check check, String code) {
        for (String line : code.split("\n")) {
            if (line.contains("new ")) {
                String text = line.trim();
                boolean fits = text.startsWith("throw new ") || text.startsWith("final ")
                        || text.startsWith("private final ") || text.matches("(cluster|kept) = new Cluster\\(\\);");
                check.same("source: " + text, fits, true);
            }
        }
    }

    /** A method's last line is the first brace that stands as far in as its first line. */
    private static void methodsAreShort(Check check, String code) {
        String[] lines = code.split("\n");
        int found = 0;
        for (int i = 0; i < lines.length; i++) {
            if (lines[i].matches("( {4}| {8})(?!if|for|while|throw|return)\\w[\\w\\[\\] ]*\\(.*[^;]")) {
                found++;
                String end = lines[i].replaceAll("\\S.*", "") + "}";
                int last = i;
                while (last < lines.length && !lines[last].equals(end)) {
                    last++;
                }
                check.same("source: short: " + lines[i].trim(), last - i < MAX_METHOD_LINES, true);
            }
        }
        check.same("source: methods found", found > 70, true);
    }
}
