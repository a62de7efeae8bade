import java.io.IOException;
import java.lang.reflect.InvocationTargetException;
import java.lang.reflect.Method;
import java.nio.file.Files;
import java.nio.file.Path;
import java.util.ArrayList;
import java.util.List;
import java.util.Set;
import java.util.TreeMap;
import java.util.TreeSet;
import java.util.regex.Matcher;
import java.util.regex.Pattern;
import java.util.stream.Stream;

/** README.md: its calls are calls of the class, its answers are given, and its commands are those of .ci/run. */
final class ReadmeTest {
    private static final Pattern EXAMPLE_CALL = Pattern.compile("x\\.(\\w+)\\(([^)]*)\\);\\s*// ([^:]+)(:.*)?");
    private static final Pattern TABLE_ROW = Pattern.compile("\\| `(\\w+)\\(([^)]*)\\)` \\|[^|]*\\|([^|]*)\\|");
    private static final Pattern PUBLIC_METHOD =
            Pattern.compile("public \\w+ (\\w+)\\(([^)]*)\\)\\s*(?:throws ([^{]*))?\\{");
    private static final String NEW_OBJECT = "BuddyBlockScheduler x = new BuddyBlockScheduler();";

    private final Check check;
    private final Path root;
    private final String readme;

    private ReadmeTest(Check check, Path root) throws IOException {
        this.check = check;
        this.root = root;
        readme = Files.readString(root.resolve("README.md"));
    }

    static void run(Check check, Path root) throws Exception {
        ReadmeTest test = new ReadmeTest(check, root);
        test.examplesAnswerSo();
        test.tableIsTheFace();
        test.commandsAreThoseOfTheScript();
        test.testsAreThoseThatAreRun();
        test.namedFilesAreThere();
    }

    private List<String> linesOfBlocks(String language) {
        List<String> lines = new ArrayList<>();
        Matcher blocks = Pattern.compile("(?s)```" + language + "\n(.*?)```").matcher(readme);
        while (blocks.find()) {
            lines.addAll(List.of(blocks.group(1).split("\n")));
        }
        return lines;
    }

    private void examplesAnswerSo() throws Exception {
        Set<String> shown = new TreeSet<>();
        BuddyBlockScheduler x = null;
        for (String line : linesOfBlocks("java")) {
            Matcher call = EXAMPLE_CALL.matcher(line);
            if (line.equals(NEW_OBJECT)) {
                x = new BuddyBlockScheduler();
            } else if (x != null && call.matches()) {
                shown.add(call.group(1));
                check.same("README: " + line, answer(x, call.group(1), call.group(2)), call.group(3).trim());
            } else {
                check.same("README: a line that can be played", line, "a call with its answer");
            }
        }
        check.same("README: each call is shown", shown, signatures().keySet());
    }

    private static String answer(BuddyBlockScheduler x, String name, String arguments) throws Exception {
        String[] texts = arguments.isEmpty() ? new String[0] : arguments.split(", ");
        for (Method method : BuddyBlockScheduler.class.getMethods()) {
            if (method.getName().equals(name) && method.getParameterCount() == texts.length) {
                return answer(x, method, texts);
            }
        }
        return "no such call";
    }

    private static String answer(BuddyBlockScheduler x, Method method, String[] texts) throws Exception {
        Object[] values = new Object[texts.length];
        for (int i = 0; i < texts.length; i++) {
            boolean number = method.getParameterTypes()[i] == int.class;
            values[i] = number ? (Object) Integer.valueOf(texts[i]) : (Object) Boolean.valueOf(texts[i]);
        }
        try {
            Object got = method.invoke(x, values);
            return method.getReturnType() == void.class ? "nothing" : String.valueOf(got);
        } catch (InvocationTargetException e) {
            return "throws " + e.getCause().getClass().getSimpleName();
        }
    }

    /** Of each public method the names of its parameters and its exceptions, as the source has them. */
    private TreeMap<String, String> signatures() throws IOException {
        TreeMap<String, String> found = new TreeMap<>();
        String source = Files.readString(root.resolve("src/main/java/BuddyBlockScheduler.java"));
        Matcher methods = PUBLIC_METHOD.matcher(source);
        while (methods.find()) {
            String parameters = methods.group(2).replaceAll("(int|boolean) ", "");
            String exceptions = methods.group(3) == null ? "" : methods.group(3).trim();
            found.put(methods.group(1), "(" + parameters + ") " + exceptions);
        }
        return found;
    }

    private void tableIsTheFace() throws IOException {
        TreeMap<String, String> told = new TreeMap<>();
        Matcher rows = TABLE_ROW.matcher(readme);
        while (rows.find()) {
            told.put(rows.group(1), "(" + rows.group(2) + ") " + rows.group(3).trim());
        }
        TreeMap<String, String> real = signatures();
        check.same("README: the calls of the table", told.keySet(), real.keySet());
        for (String name : real.keySet()) {
            check.same("README: the row of " + name, String.valueOf(told.get(name)), real.get(name));
        }
    }

    /** In both directions: what the page says is what the script does, and the script compiles and runs nothing else. */
    private void commandsAreThoseOfTheScript() throws IOException {
        Path script = root.resolve(".ci/run");
        check.same("README: .ci/run can be executed", Files.isExecutable(script), true);
        List<String> done = new ArrayList<>();
        for (String line : Files.readAllLines(script)) {
            done.add(line.trim().replaceAll(" &&$", ""));
        }
        List<String> told = linesOfBlocks("sh");
        check.same("README: how to run all tests", told.contains(".ci/run"), true);
        for (String line : told) {
            boolean isName = line.startsWith("name=")
                    && Files.exists(root.resolve("../shared/tests/" + line.substring("name=".length()) + ".java"));
            boolean fits = line.equals(".ci/run") || isName || done.contains(line);
            check.same("README: a command of .ci/run: " + line, fits, true);
        }
        for (String line : done) {
            if (line.startsWith("java") || line.contains("mktemp")) {
                check.same("README: tells what .ci/run does: " + line, told.contains(line), true);
            }
        }
    }

    /** A test that AllTests does not run would never fail. */
    private void testsAreThoseThatAreRun() throws IOException {
        String runner = Files.readString(root.resolve("src/test/java/AllTests.java"));
        int found = 0;
        for (Path file : testFiles()) {
            String name = file.getFileName().toString().replace(".java", "");
            check.same("README: names " + name, readme.contains("`" + name + "`"), true);
            if (Files.readString(file).contains("static void run(Check check")) {
                found++;
                boolean isRun = Pattern.compile("\\b" + name + "(::run\\b|\\.run\\()").matcher(runner).find();
                check.same("AllTests: runs " + name, isRun, true);
            }
        }
        check.same("AllTests: there are tests", found > 0, true);
    }

    private List<Path> testFiles() throws IOException {
        try (Stream<Path> files = Files.list(root.resolve("src/test/java"))) {
            return files.filter(file -> file.toString().endsWith(".java")).sorted().toList();
        }
    }

    /** Between single backquotes stands a call, a program, a path, or a class of the tests; ../shared is not ours. */
    private void namedFilesAreThere() throws IOException {
        Set<String> calls = signatures().keySet();
        String words = readme.replaceAll("(?s)```.*?```", "");
        Matcher names = Pattern.compile("`([^`\n]+)`").matcher(words);
        while (names.find()) {
            String name = names.group(1);
            boolean known = calls.contains(name.replaceAll("\\(.*", "")) || name.equals("javac") || name.equals("java")
                    || name.startsWith("../shared/") || Files.exists(root.resolve(name))
                    || Files.exists(root.resolve("src/test/java/" + name + ".java"));
            check.same("README: there is " + name, known, true);
        }
    }
}
