import java.io.IOException;
import java.lang.reflect.InvocationTargetException;
import java.net.URL;
import java.net.URLClassLoader;
import java.nio.file.Files;
import java.nio.file.Path;
import java.util.ArrayList;
import java.util.List;
import java.util.TreeSet;
import java.util.regex.Matcher;
import java.util.regex.Pattern;
import java.util.stream.Collectors;
import java.util.stream.Stream;
import javax.tools.ToolProvider;

/** README.md is true of the class and the tests: its example, its rows of calls and of tests. */
public final class ReadmeTest {
    private static final Check CHECK = new Check("ReadmeTest");
    private static final Path README = Path.of("README.md");
    private static final Path TESTS = Path.of("src/test/java");
    private static final Pattern DECLARATION = Pattern.compile(
            "public (?:int|void|boolean) (\\w+)\\((.*?)\\)(?: throws (.*))?;");
    private static final Pattern ROW = Pattern.compile("\\| `(\\w+\\(.*?\\))` \\| .+ \\| (.+) \\|");
    private static final Pattern TEST_ROW = Pattern.compile("\\| `(\\w+Test)` \\| .+ \\|");
    private static final Pattern THROWN = Pattern.compile("(Index|Argument|State): [^.]+");
    private static final Pattern ANSWERED = Pattern.compile(
            "\\s*(?:\\w+ )?(\\w+) = .*;\\s+// (-?\\w+).*");

    public static void main(String[] args) throws IOException, ReflectiveOperationException {
        calls();
        tests();
        example();
        CHECK.finish();
    }

    /** The exceptions of a throws clause by the words that README.md has for them. */
    private static String shortNames(String clause) {
        return clause == null ? "nothing" : clause.replace("IndexOutOfBoundsException", "Index")
                .replace("IllegalArgumentException", "Argument")
                .replace("IllegalStateException", "State");
    }

    /** Each call of the document has a row, with its arguments and what it throws in that order. */
    private static void calls() throws IOException {
        List<String> due = new ArrayList<>();
        for (String line : Document.between("## The public face", "## Terms")) {
            Matcher declared = DECLARATION.matcher(line.trim());
            if (declared.matches()) {
                String arguments = declared.group(2).replaceAll("(int|boolean) ", "");
                due.add(declared.group(1) + "(" + arguments + ") " + shortNames(declared.group(3)));
            }
        }
        List<String> told = new ArrayList<>();
        for (String line : Files.readAllLines(README)) {
            Matcher row = ROW.matcher(line);
            if (row.matches()) {
                String thrown = row.group(2).equals("nothing") ? "nothing"
                        : THROWN.matcher(row.group(2)).results().map(found -> found.group(1))
                                .collect(Collectors.joining(", "));
                told.add(row.group(1) + " " + thrown);
            }
        }
        CHECK.same("calls in the document", 28, due.size());
        CHECK.isSo("the rows are " + told + ", due are " + due, told.equals(due));
    }

    private static void tests() throws IOException {
        TreeSet<String> told = new TreeSet<>();
        for (String line : Files.readAllLines(README)) {
            Matcher row = TEST_ROW.matcher(line);
            if (row.matches()) {
                told.add(row.group(1));
            }
        }
        TreeSet<String> due;
        try (Stream<Path> files = Files.list(TESTS)) {
            due = files.map(file -> file.getFileName().toString())
                    .filter(name -> name.endsWith("Test.java"))
                    .map(name -> name.replace(".java", ""))
                    .collect(Collectors.toCollection(TreeSet::new));
        }
        CHECK.isSo("the tests told are " + told + ", due are " + due, told.equals(due));
    }

    /** The example as it stands there is compiled and run; each line answers what stands behind it. */
    private static void example() throws IOException, ReflectiveOperationException {
        List<String> due = new ArrayList<>();
        StringBuilder source = new StringBuilder("public final class Example {\n"
                + "public static void run(java.util.List<String> told) {\n");
        for (String line : exampleLines()) {
            source.append(line).append('\n');
            Matcher answered = ANSWERED.matcher(line);
            if (answered.matches()) {
                due.add(answered.group(1) + " " + answered.group(2));
                source.append(String.format("told.add(\"%1$s \" + %1$s);%n", answered.group(1)));
            }
        }
        List<String> told = run(source.append("}\n}\n").toString());
        CHECK.isSo("the example has only " + due, due.size() >= 10);
        CHECK.isSo("the example answers " + told + ", due are " + due, told.equals(due));
    }

    private static List<String> exampleLines() throws IOException {
        List<String> lines = Files.readAllLines(README);
        int first = lines.indexOf("```java") + 1;
        int length = lines.subList(first, lines.size()).indexOf("```");
        CHECK.isSo("there is no example", first > 0 && length > 0);
        return lines.subList(first, first + Math.max(0, length));
    }

    private static List<String> run(String source) throws IOException, ReflectiveOperationException {
        Path folder = Files.createTempDirectory("readme");
        Path file = Files.writeString(folder.resolve("Example.java"), source);
        List<String> told = new ArrayList<>();
        int failed = ToolProvider.getSystemJavaCompiler().run(null, null, null, "-cp",
                System.getProperty("java.class.path"), "-d", folder.toString(), file.toString());
        CHECK.same("compiling the example", 0, failed);
        try (URLClassLoader loader = new URLClassLoader(new URL[] {folder.toUri().toURL()})) {
            if (failed == 0) {
                loader.loadClass("Example").getMethod("run", List.class).invoke(null, told);
            }
        } catch (InvocationTargetException e) {
            CHECK.isSo("the example threw " + e.getCause(), false);
        }
        for (String left : new String[] {"Example.class", "Example.java", ""}) {
            Files.deleteIfExists(folder.resolve(left));
        }
        return told;
    }
}
