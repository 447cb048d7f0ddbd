import java.io.IOException;
import java.lang.reflect.InvocationTargetException;
import java.net.URL;
import java.net.URLClassLoader;
import java.nio.file.Files;
import java.nio.file.Path;
import java.util.regex.Matcher;
import java.util.regex.Pattern;
import java.util.stream.Stream;
import javax.tools.ToolProvider;

/** README.md is as things are: its examples run and answer what they say, and it names every test and no other. */
public final class KeyFinderReadmeTest {
    private static final Path README = Path.of("README.md");
    /** A call whose comment begins with what it answers. */
    private static final Pattern ANSWERED = Pattern.compile("^(?:int \\w+ = )?(k\\.\\w+\\(.*\\)); +// (-?\\d+)(?!\\w).*$");
    private static final int FEWEST_ANSWERS = 20;

    private static int wrong = 0;

    private static void due(boolean is, String what) {
        if (!is) {
            wrong++;
            System.out.println("readme: " + what);
        }
    }

    public static void main(String[] args) throws Exception {
        String text = Files.readString(README);
        runs(text);
        names(text);
        System.out.println(wrong == 0 ? "readme: as things are" : "readme: " + wrong + " are not as told");
        if (wrong != 0) {
            System.exit(1);
        }
    }

    // ---- the examples

    private static void runs(String text) throws Exception {
        StringBuilder code = new StringBuilder("public final class Example {\npublic static StringBuilder wrong = "
                + "new StringBuilder();\nstatic void due(String call, long got, long want) {\nif (got != want) "
                + "wrong.append(call + \" answers \" + got + \", told is \" + want + \"; \");\n}\n"
                + "public static void run() {\n");
        int answers = 0;
        Matcher block = Pattern.compile("```java\\n(.*?)```", Pattern.DOTALL).matcher(text);
        while (block.find()) {
            for (String line : block.group(1).split("\n")) {
                Matcher m = ANSWERED.matcher(line);
                code.append(m.matches() ? asked(line, m) : line).append('\n');
                answers += m.matches() ? 1 : 0;
            }
        }
        due(answers >= FEWEST_ANSWERS, "its examples tell only " + answers + " answers");
        String found = compiledAndRun(code.append("}\n}\n").toString());
        due(found.isEmpty(), found);
    }

    private static String asked(String line, Matcher m) {
        String call = "due(\"" + m.group(1) + "\", %s, " + m.group(2) + "L);";
        if (line.startsWith("int ")) {
            String name = line.substring(4, line.indexOf(" ="));
            return line.substring(0, line.indexOf("//")) + String.format(call, name);
        }
        return String.format(call, m.group(1));
    }

    private static String compiledAndRun(String code) throws Exception {
        Path place = Files.createTempDirectory("readme");
        Path file = place.resolve("Example.java");
        try {
            Files.writeString(file, code);
            int rc = ToolProvider.getSystemJavaCompiler().run(null, null, null,
                    "-cp", System.getProperty("java.class.path"), "-d", place.toString(), file.toString());
            return rc != 0 ? "its examples do not compile" : foundBy(place);
        } finally {
            sweep(place);
        }
    }

    private static String foundBy(Path place) throws Exception {
        URL[] urls = {place.toUri().toURL()};
        try (URLClassLoader loader = new URLClassLoader(urls, KeyFinder.class.getClassLoader())) {
            Class<?> example = loader.loadClass("Example");
            example.getMethod("run").invoke(null);
            return example.getField("wrong").get(null).toString();
        } catch (InvocationTargetException e) {
            return "its examples throw " + e.getCause();
        }
    }

    private static void sweep(Path place) throws IOException {
        try (Stream<Path> files = Files.list(place)) {
            for (Path file : files.toArray(Path[]::new)) {
                Files.delete(file);
            }
        }
        Files.delete(place);
    }

    // ---- the tests

    private static void names(String text) throws IOException {
        try (Stream<Path> files = Files.list(Path.of("src/test/java"))) {
            for (Path file : files.toArray(Path[]::new)) {
                String name = file.getFileName().toString().replace(".java", "");
                due(text.contains("`" + name + "`"), "it does not tell of " + name);
            }
        }
        Matcher m = Pattern.compile("\\bKeyFinder\\w+Test\\b").matcher(text);
        while (m.find()) {
            due(Files.exists(Path.of("src/test/java", m.group() + ".java")), "there is no " + m.group());
        }
    }
}
