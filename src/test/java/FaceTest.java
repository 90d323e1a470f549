import java.io.IOException;
import java.lang.reflect.Field;
import java.lang.reflect.Method;
import java.lang.reflect.Modifier;
import java.nio.file.Files;
import java.nio.file.Path;
import java.util.Arrays;
import java.util.TreeSet;
import java.util.stream.Collectors;

/** The face is the document's, to the letter, and the file keeps to what LANGUAGE.md lets count. */
public final class FaceTest {
    private static final Check CHECK = new Check("FaceTest");
    private static final Path SOURCE = Path.of("src/main/java/Panyard.java");

    public static void main(String[] args) throws IOException {
        constants();
        methods();
        classesInside();
        words();
        methodsAreShort();
        CHECK.finish();
    }

    private static void constants() throws IOException {
        CHECK.same("NONE", -1, Panyard.NONE);
        CHECK.same("FIFTHS", 0, Panyard.FIFTHS);
        CHECK.same("OLD", 1, Panyard.OLD);
        CHECK.same("UNKNOWN", 0, Panyard.UNKNOWN);
        CHECK.same("RIGHT", 1, Panyard.RIGHT);
        CHECK.same("WRONG", 2, Panyard.WRONG);
        TreeSet<String> open = new TreeSet<>();
        for (Field field : Panyard.class.getDeclaredFields()) {
            int how = field.getModifiers();
            if (!Modifier.isPrivate(how)) {
                open.add(field.getName());
                CHECK.isSo(field + " is no constant", Modifier.isPublic(how)
                        && Modifier.isStatic(how) && field.getType() == int.class);
            }
            CHECK.isSo(field + " is static and not final",
                    !Modifier.isStatic(how) || Modifier.isFinal(how));
        }
        CHECK.isSo("constants " + open,
                open.equals(new TreeSet<>(Arrays.asList("NONE", "FIFTHS", "OLD", "UNKNOWN",
                        "RIGHT", "WRONG"))));
    }

    /** The methods as the document's listing declares them. */
    private static TreeSet<String> declaredInDocument() throws IOException {
        return Files.readAllLines(Document.PLACE).stream().map(String::trim)
                .filter(line -> line.matches("public (int|void|boolean) \\w+\\(.*;"))
                .map(line -> line.replace("public ", "").replace(";", "")
                        .replaceAll("(int|boolean) \\w+([,)])", "$1$2"))
                .collect(Collectors.toCollection(TreeSet::new));
    }

    private static String declaration(Method method) {
        String thrown = Arrays.stream(method.getExceptionTypes()).map(Class::getSimpleName)
                .collect(Collectors.joining(", "));
        return method.getReturnType() + " " + method.getName() + "("
                + Arrays.stream(method.getParameterTypes()).map(Class::getName)
                        .collect(Collectors.joining(", "))
                + ")" + (thrown.isEmpty() ? "" : " throws " + thrown);
    }

    private static void methods() throws IOException {
        int how = Panyard.class.getModifiers();
        CHECK.isSo("public and final", Modifier.isPublic(how) && Modifier.isFinal(how));
        CHECK.same("constructors", 1, Panyard.class.getDeclaredConstructors().length);
        CHECK.same("public constructors", 1, Panyard.class.getConstructors().length);
        TreeSet<String> open = new TreeSet<>();
        TreeSet<String> names = new TreeSet<>();
        TreeSet<String> hidden = new TreeSet<>();
        for (Method method : Panyard.class.getDeclaredMethods()) {
            if (Modifier.isPrivate(method.getModifiers())) {
                hidden.add(method.getName());
            } else {
                CHECK.isSo(method + " is not public", Modifier.isPublic(method.getModifiers()));
                open.add(declaration(method));
                names.add(method.getName());
            }
        }
        TreeSet<String> due = declaredInDocument();
        CHECK.same("methods in the document", 28, due.size());
        CHECK.isSo("methods are " + open + ", due are " + due, open.equals(due));
        for (Class<?> inside : Panyard.class.getDeclaredClasses()) {
            for (Method method : inside.getDeclaredMethods()) {
                hidden.add(method.getName());
            }
        }
        names.retainAll(hidden);
        CHECK.isSo("hidden methods with names of the face: " + names, names.isEmpty());
    }

    private static void classesInside() {
        Class<?>[] inside = Panyard.class.getDeclaredClasses();
        CHECK.isSo("at most twelve classes", inside.length + 1 <= 12);
        for (Class<?> one : inside) {
            int how = one.getModifiers();
            CHECK.isSo(one + " is open", !Modifier.isPublic(how) && !Modifier.isProtected(how));
            CHECK.isSo(one + " is not static", Modifier.isStatic(how));
            CHECK.isSo(one + " has many fields", one.getDeclaredFields().length <= 20);
        }
    }

    private static void words() throws IOException {
        String source = Files.readString(SOURCE);
        for (String word : new String[] {"->", "::", "Exact(", "import java.util.*"}) {
            CHECK.isSo("the source has " + word, !source.contains(word));
        }
        for (String word : "package try catch finally synchronized assert System.out Random Thread var"
                .split(" ")) {
            CHECK.isSo("the source has " + word,
                    !source.matches("(?s).*\\b" + word.replace(".", "\\.") + "\\b.*"));
        }
        source.lines().filter(line -> line.startsWith("import ")).forEach(line -> CHECK.isSo(line,
                line.matches("import java\\.util\\.(ArrayList|Arrays|List|Iterator|NoSuchElementException);")));
        source.lines().forEach(line -> CHECK.isSo("long line: " + line, line.length() <= 100));
        CHECK.isSo("signs 1 to 127", source.chars().allMatch(sign -> sign > 0 && sign < 128));
    }

    private static void methodsAreShort() throws IOException {
        int since = 0;
        int number = 0;
        for (String line : Files.readAllLines(SOURCE)) {
            number++;
            if (line.matches(" {4}( {4})?\\S.*[({,]$") && !line.contains(" class ")) {
                since = since == 0 ? number : since;
            }
            if (line.matches(" {4}( {4})?}")) {
                CHECK.isSo("long method at line " + since, since == 0 || number - since < 60);
                since = 0;
            }
        }
    }
}
