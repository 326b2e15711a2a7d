import java.io.IOException;
import java.lang.reflect.Method;
import java.lang.reflect.Modifier;
import java.net.URL;
import java.net.URLClassLoader;
import java.nio.file.Files;
import java.nio.file.Path;
import java.util.ArrayList;
import java.util.List;
import java.util.regex.Matcher;
import java.util.regex.Pattern;
import javax.tools.ToolProvider;

/** README.md's program: it compiles, each call answers what stands behind it, and no call is left out. */
public final class ReadmeTest {
    private static final Due DUE = new Due();
    private static final int FEWEST_ANSWERS = 40;
    private static final Pattern TOLD =
            Pattern.compile("(int \\w+ = )?(x\\.\\w+\\(.*\\)); +// (?:(-?\\d+)|throws (\\w+))(?::.*)?");
    private static final Pattern MEANT_TO_BE_TOLD = Pattern.compile(".*// *(-?\\d|throws).*");

    public static void main(String[] args) throws IOException, ReflectiveOperationException {
        List<String> program = javaLines(Files.readAllLines(Path.of("README.md")));
        everyCallIsShown(String.join("\n", program));
        everyAnswerIsRight(program);
        DUE.end();
    }

    private static List<String> javaLines(List<String> text) {
        List<String> lines = new ArrayList<>();
        boolean inside = false;
        for (String line : text) {
            if (line.startsWith("```")) {
                inside = line.equals("```java");
            } else if (inside) {
                lines.add(line);
            }
        }
        return lines;
    }

    private static void everyCallIsShown(String program) {
        for (Method method : ClocklessGates.class.getDeclaredMethods()) {
            if (Modifier.isPublic(method.getModifiers())) {
                DUE.that("README.md shows " + method.getName(), program.contains("x." + method.getName() + "("));
            }
        }
    }

    private static void everyAnswerIsRight(List<String> program) throws IOException, ReflectiveOperationException {
        StringBuilder source = new StringBuilder("public final class Shown {\n"
                + "public static void run(java.util.List<String[]> told) {\n");
        int answers = 0;
        for (String line : program) {
            Matcher told = TOLD.matcher(line);
            boolean tells = told.matches();
            answers += tells ? 1 : 0;
            DUE.that("README.md's line is understood: " + line, tells || !MEANT_TO_BE_TOLD.matcher(line).matches());
            source.append(tells ? asComparison(told) : line).append('\n');
        }
        source.append("}\n}\n");
        DUE.that("README.md tells " + answers + " answers", answers >= FEWEST_ANSWERS);
        for (String[] told : run(source.toString())) {
            DUE.outcome("README.md: " + told[0], told[1], told[2]);
        }
    }

    private static String asComparison(Matcher told) {
        String call = told.group(2);
        if (told.group(4) != null) {
            String entry = "told.add(new String[] {\"" + call + "\", \"" + told.group(4) + "\", ";
            return "try { " + call + "; " + entry + "\"something\"}); } "
                    + "catch (RuntimeException e) { " + entry + "e.getClass().getSimpleName()}); }";
        }
        String entry = "told.add(new String[] {\"" + call + "\", \"" + told.group(3) + "\", ";
        if (told.group(1) == null) {
            return entry + "Integer.toString(" + call + ")});";
        }
        String name = told.group(1).split(" ")[1];
        return told.group(1) + call + "; " + entry + "Integer.toString(" + name + ")});";
    }

    private static List<String[]> run(String source) throws IOException, ReflectiveOperationException {
        Path directory = Files.createTempDirectory("readme");
        Path file = directory.resolve("Shown.java");
        List<String[]> told = new ArrayList<>();
        try (URLClassLoader loader = new URLClassLoader(new URL[] {directory.toUri().toURL()})) {
            Files.writeString(file, source);
            int exit = ToolProvider.getSystemJavaCompiler().run(null, null, null, "-d", directory.toString(),
                    "-cp", System.getProperty("java.class.path"), file.toString());
            DUE.answer("README.md's program compiles", 0, () -> exit);
            if (exit == 0) {
                loader.loadClass("Shown").getMethod("run", List.class).invoke(null, told);
            }
        } finally {
            Files.deleteIfExists(file);
            Files.deleteIfExists(directory.resolve("Shown.class"));
            Files.deleteIfExists(directory);
        }
        return told;
    }
}
