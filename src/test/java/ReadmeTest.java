import java.io.IOException;
import java.lang.reflect.Method;
import java.lang.reflect.Modifier;
import java.net.URL;
import java.net.URLClassLoader;
import java.nio.file.Files;
import java.nio.file.Path;
import java.util.regex.Matcher;
import java.util.regex.Pattern;
import javax.tools.ToolProvider;

/** The examples of README.md, compiled as they stand and run: each call answers what stands behind it. */
public final class ReadmeTest {
    private static final Checks CHECKS = new Checks("README.md");
    private static final Pattern BLOCK = Pattern.compile("```java\n(.*?)```", Pattern.DOTALL);
    private static final Pattern ANSWERED = Pattern.compile("(x\\.(\\w+)\\([^;]*\\)); +// (-?\\d+|[A-Z]+)(:.*)?");
    private static final String HEAD = "public final class Example {\n"
            + "    private static int answers = 0;\n"
            + "    private static void due(String call, long got, long want) {\n"
            + "        answers++;\n"
            + "        if (got != want) {\n"
            + "            throw new IllegalStateException(call + \" answered \" + got + \", README.md says \" + want);\n"
            + "        }\n"
            + "    }\n"
            + "    public static int run() {\n";

    public static void main(String[] args) throws Exception {
        String readme = Files.readString(Path.of("README.md"));
        String code = examples(readme);
        CHECKS.due("answers of the examples", runs(code), answered(code));
        eachCallIsShown(code);
        whatItNamesIsThere(readme);
        CHECKS.end();
    }

    private static String examples(String readme) {
        StringBuilder code = new StringBuilder();
        Matcher block = BLOCK.matcher(readme);
        while (block.find()) {
            code.append(block.group(1));
        }
        return code.toString();
    }

    private static int answered(String code) {
        int count = 0;
        for (String line : code.split("\n")) {
            if (ANSWERED.matcher(line).matches()) {
                count++;
            } else {
                CHECKS.due("an answer stands behind: " + line, line.contains("say(sign)") || !line.contains("x.") ? 1 : 0, 1);
            }
        }
        return count;
    }

    /** How many answers were as README.md says. */
    private static int runs(String code) throws Exception {
        StringBuilder source = new StringBuilder(HEAD);
        for (String line : code.split("\n")) {
            Matcher call = ANSWERED.matcher(line);
            source.append(call.matches() ? "due(\"" + call.group(1) + "\", " + call.group(1) + ", " + number(call.group(3)) + ");"
                    : line).append('\n');
        }
        source.append("return answers;\n}\n}\n");
        Path place = Files.createTempDirectory("readme");
        Path file = place.resolve("Example.java");
        Files.writeString(file, source.toString());
        String classes = Path.of(SilentAfter.class.getProtectionDomain().getCodeSource().getLocation().toURI()).toString();
        int failed = ToolProvider.getSystemJavaCompiler().run(null, null, null, "-proc:none", "-cp", classes, "-d",
                place.toString(), file.toString());
        CHECKS.due("the examples compile", failed, 0);
        try (URLClassLoader loader = new URLClassLoader(new URL[] {place.toUri().toURL()})) {
            return (Integer) loader.loadClass("Example").getMethod("run").invoke(null);
        } finally {
            remove(place, "Example.java", "Example.class");
        }
    }

    private static String number(String answer) {
        return Character.isUpperCase(answer.charAt(0)) ? "SilentAfter." + answer : answer;
    }

    private static void remove(Path place, String... names) throws IOException {
        for (String name : names) {
            Files.deleteIfExists(place.resolve(name));
        }
        Files.deleteIfExists(place);
    }

    private static void eachCallIsShown(String code) {
        for (Method m : SilentAfter.class.getDeclaredMethods()) {
            if (Modifier.isPublic(m.getModifiers())) {
                CHECKS.due(m.getName() + " is shown", code.contains("x." + m.getName() + "(") ? 1 : 0, 1);
            }
        }
    }

    /** Files and classes that README.md names in marks are there. */
    private static void whatItNamesIsThere(String readme) {
        Matcher named = Pattern.compile("`([^`\\s]+)`").matcher(readme.replaceAll("(?s)```.*?```", ""));
        while (named.find()) {
            String name = named.group(1);
            if (name.matches("[a-z./]+/[\\w./]+") && !name.contains("*")) {
                CHECKS.due(name + " is there", Files.exists(Path.of(name)) ? 1 : 0, 1);
            } else if (name.matches("\\w+Test|SlowModel|Checks|Edges|Document")) {
                CHECKS.due(name + " is there", Files.exists(Path.of("src/test/java/" + name + ".java")) ? 1 : 0, 1);
            } else if (name.matches("Valley|Text|Talk|Sights|Scene|Search")) {
                CHECKS.due(name + " is inside", isInside(name) ? 1 : 0, 1);
            }
        }
    }

    private static boolean isInside(String name) {
        for (Class<?> c : SilentAfter.class.getDeclaredClasses()) {
            if (c.getSimpleName().equals(name)) {
                return true;
            }
        }
        return false;
    }
}
