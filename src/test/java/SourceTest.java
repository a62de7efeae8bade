import java.io.IOException;
import java.nio.file.Files;
import java.nio.file.Path;
import java.util.regex.Matcher;
import java.util.regex.Pattern;

/** Those rules of LANGUAGE.md, and of how the class is to be written, that can be seen in the text of the source. */
final class SourceTest {
    private static final String[] FORBIDDEN = {
        "\\bfinally\\b", "\\bsynchronized\\b", "\\bassert\\b", "::", "\\)\\s*->", "\\bstatic\\s*\\{", "\\bpackage\\b",
        "\\bprotected\\b", "Exact\\b", "\\bimport\\s+static\\b", "\\bSystem\\.(?!arraycopy\\b)",
        "\\bMath\\.(?!max\\b|min\\b|abs\\b|floorDiv\\b|floorMod\\b)", "\\bThread\\b", "\\bRandom\\b", "\\brandom\\b",
        "\\bhashCode\\b", "\\bgetMessage\\b", "\"\\s*\\+", "\\+\\s*\"", "\\btry\\s*\\(",
        "catch\\s*\\([^)]*\\b(Throwable|Error|Exception|RuntimeException|ArrayIndexOutOfBoundsException"
            + "|NullPointerException|ClassCastException|NegativeArraySizeException|ArrayStoreException)\\b",
    };
    private static final int MAX_METHOD_LINES = 60;
    private static final int MAX_PARAMETERS = 7;

    static void run(Check check, Path path) throws IOException {
        String source = Files.readString(path);
        String code = source.replaceAll("(?s)/\\*.*?\\*/", "").replaceAll("//[^\n]*", "");
        for (String pattern : FORBIDDEN) {
            check.same("source: " + pattern, Pattern.compile(pattern).matcher(code).find(), false);
        }
        Matcher imports = Pattern.compile("\\bimport\\s+([^;]+);").matcher(code);
        Pattern allowed = Pattern.compile("java\\.util\\.(NoSuchElementException|ArrayList|List|Arrays|Iterator)");
        while (imports.find()) {
            String name = imports.group(1);
            check.same("source: import " + name, allowed.matcher(name).matches(), true);
        }
        check.same("source: ASCII alone", source.chars().allMatch(c -> c < 128), true);
        nothingIsMadeByCalls(check, code);
        methodsAreShort(check, code);
    }

    /** The rows are made once and used again: a call makes nothing but the exception that it throws. */
    private static void nothingIsMadeByCalls(Check check, String code) {
        for (String line : code.split("\n")) {
            if (line.contains("new ")) {
                String text = line.trim();
                boolean fits = text.startsWith("throw new ") || text.startsWith("final ")
                        || text.startsWith("private final ") || text.matches("(cluster|kept) = new Cluster\\(\\);");
                check.same("source: " + text, fits, true);
            }
        }
    }

    /** A method's last line is the first brace that stands as far in as its first line. */
    private static void methodsAreShort(Check check, String code) {
        String[] lines = code.split("\n");
        for (int i = 0; i < lines.length; i++) {
            if (lines[i].matches("( {4}| {8})(?!if|for|while|throw|return)\\w[\\w\\[\\] ]*\\(.*[^;]")) {
                String end = lines[i].replaceAll("\\S.*", "") + "}";
                int last = i;
                while (last < lines.length && !lines[last].equals(end)) {
                    last++;
                }
                check.same("source: short: " + lines[i].trim(), last - i < MAX_METHOD_LINES, true);
                int parameters = lines[i].replaceAll("\\).*", "").replaceAll("[^,]", "").length() + 1;
                check.same("source: few parameters: " + lines[i].trim(), parameters <= MAX_PARAMETERS, true);
            }
        }
    }
}
