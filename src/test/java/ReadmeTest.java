import java.io.ByteArrayOutputStream;
import java.io.IOException;
import java.io.PrintStream;
import java.lang.reflect.Method;
import java.lang.reflect.Modifier;
import java.net.URL;
import java.net.URLClassLoader;
import java.nio.file.Files;
import java.nio.file.Path;
import java.util.ArrayList;
import java.util.List;
import java.util.regex.Matcher;
import java.util.regex.Pattern;
import javax.tools.JavaCompiler;
import javax.tools.ToolProvider;

/** README.md: what it shows of the class's answers is so, and it leaves out no call of the face. */
public final class ReadmeTest {
    private static final Pattern EXAMPLE = Pattern.compile("(?s)```java\n(.*?)```");
    private static final Pattern ANSWER = Pattern.compile("show\\(.*\\); +// ([^:\n]+)(?::[^\n]*)?");
    private static final Pattern ROW = Pattern.compile("\\| (\\d+) \\| [^|]+ \\| (-?\\d+) \\| (-?\\d+) \\|");

    public static void main(String[] args) throws ReflectiveOperationException, IOException {
        String readme = Files.readString(Path.of("README.md"));
        Matcher example = EXAMPLE.matcher(readme);
        boolean found = example.find();
        Check.due("README.md has an example", found, true);
        if (found) {
            Class<?> compiled = compiled(example.group(1));
            answersOfExample(compiled, example.group(1));
            tableOfTold(compiled, readme);
            everyCall(example.group(1), readme);
        }
        everyTest(readme);
        Check.end();
    }

    private static Class<?> compiled(String code) throws ReflectiveOperationException, IOException {
        Path directory = Files.createTempDirectory("readme");
        Path source = directory.resolve("Example.java");
        Path made = directory.resolve("Example.class");
        try {
            Files.writeString(source, code);
            JavaCompiler compiler = ToolProvider.getSystemJavaCompiler();
            int failed = compiler.run(null, null, null, "-Xlint:all", "-Werror", "-d", directory.toString(),
                "-cp", System.getProperty("java.class.path"), source.toString());
            Check.due("compiling the example", failed, 0);
            URL[] place = {directory.toUri().toURL()};
            try (URLClassLoader loader = new URLClassLoader(place)) {
                return loader.loadClass("Example");
            }
        } finally {
            Files.deleteIfExists(source);
            Files.deleteIfExists(made);
            Files.deleteIfExists(directory);
        }
    }

    private static void answersOfExample(Class<?> compiled, String code) throws ReflectiveOperationException {
        List<String> shown = new ArrayList<>();
        for (String line : code.split("\n")) {
            Matcher answer = ANSWER.matcher(line);
            if (answer.find()) {
                shown.add(answer.group(1).strip());
            }
        }
        String[] printed = printedBy(compiled).split("\\R");
        Check.due("how many answers the example prints", printed.length, shown.size());
        for (int i = 0; i < printed.length && i < shown.size(); i++) {
            Check.same("answer " + (i + 1) + " of the example, by README.md,", shown.get(i), printed[i]);
        }
    }

    private static String printedBy(Class<?> compiled) throws ReflectiveOperationException {
        PrintStream out = System.out;
        ByteArrayOutputStream caught = new ByteArrayOutputStream();
        System.setOut(new PrintStream(caught, true));
        try {
            compiled.getMethod("main", String[].class).invoke(null, (Object) new String[0]);
        } finally {
            System.setOut(out);
        }
        return caught.toString();
    }

    private static void tableOfTold(Class<?> compiled, String readme) throws ReflectiveOperationException {
        HeadDesk request = Check.having(Check.REQUEST, (String) compiled.getField("REQUEST").get(null));
        HeadDesk thing = Check.having(Check.THING, (String) compiled.getField("THING").get(null));
        Matcher row = ROW.matcher(readme);
        int rows = 0;
        while (row.find()) {
            int what = Integer.parseInt(row.group(1));
            Check.due("the table's row", what, rows);
            Check.due("told(" + what + ") of the REQUEST, by README.md,", Integer.parseInt(row.group(2)), request.told(what));
            Check.due("told(" + what + ") of the THING, by README.md,", Integer.parseInt(row.group(3)), thing.told(what));
            rows++;
        }
        Check.due("how many rows the table has", rows, 18);
    }

    private static void everyCall(String code, String readme) {
        for (Method method : HeadDesk.class.getDeclaredMethods()) {
            if (Modifier.isPublic(method.getModifiers())) {
                String name = method.getName();
                Check.due("the example calls " + name, code.contains("desk." + name + "("), true);
                Check.due("the table of calls has " + name, readme.contains("| `" + name + "("), true);
            }
        }
        Check.due("the table of calls has the constructor", readme.contains("| `new HeadDesk()` |"), true);
    }

    private static void everyTest(String readme) {
        String[] names = new java.io.File("src/test/java").list((directory, name) -> name.endsWith("Test.java"));
        Check.due("tests are there", names != null && names.length > 0, true);
        for (String name : names == null ? new String[0] : names) {
            String row = "| " + name.substring(0, name.length() - 5) + " |";
            Check.due("README.md names " + name, readme.contains(row), true);
        }
    }
}
