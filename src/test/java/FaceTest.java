import java.io.IOException;
import java.lang.reflect.Field;
import java.lang.reflect.Method;
import java.lang.reflect.Modifier;
import java.nio.file.Files;
import java.nio.file.Path;
import java.util.Arrays;
import java.util.HashSet;
import java.util.Set;
import java.util.TreeSet;
import java.util.regex.Matcher;
import java.util.regex.Pattern;

/** The face of the document, and what can be seen of LANGUAGE.md from outside and in the text of the program. */
public final class FaceTest {
    private static final Checks CHECKS = new Checks("face");
    private static final Path SOURCE = Path.of("src/main/java/SilentAfter.java");
    private static final String[] METHODS = {"int set(int,int)", "int say(int)", "int wipe()", "int fault()", "int judge()",
        "int done()", "int behind(int)", "int free(int)", "int answer(int,int)", "int give(int,int,int)",
        "int saying(int,int,int)", "int drop()", "int soonest(int)", "int whom(int,int)",
        "int quarrel(int,int,int,int,int,int)", "int length(int,int,int)", "int seen(int,int)", "int forget()",
        "int filled(int)", "long burns(int,int)", "int year(int,int,int)", "int image(int)", "int restore(int)",
        "int told(int)"};
    private static final String[] FIELDS = {"int NONE", "int UNKNOWN", "int OUTSIDE", "int STATE", "int FULL", "int NO",
        "long LOST"};
    private static final String[] RULED_OUT = {"import ", "try ", "catch ", "finally", "throw ", "assert", "synchronized",
        "System.", "Exact", "->", "::", "double", "float", "Object", "package ", "String", "Integer", "Long", "List", "clone",
        "Arrays"};

    private static void holds(String what, boolean right) {
        CHECKS.due(what, right ? 1 : 0, 1);
    }

    public static void main(String[] args) throws IOException {
        face();
        privateNames();
        insideClasses();
        sourceWords();
        CHECKS.end();
    }

    private static void face() {
        Set<String> methods = new TreeSet<>();
        for (Method m : SilentAfter.class.getDeclaredMethods()) {
            if (!Modifier.isPrivate(m.getModifiers())) {
                StringBuilder parameters = new StringBuilder();
                for (Class<?> c : m.getParameterTypes()) {
                    parameters.append(parameters.length() == 0 ? "" : ",").append(c.getName());
                }
                methods.add(m.getReturnType().getName() + " " + m.getName() + "(" + parameters + ")");
                holds(m.getName() + " is public", Modifier.isPublic(m.getModifiers()));
            }
        }
        holds("methods " + methods, methods.equals(new TreeSet<>(Arrays.asList(METHODS))));
        Set<String> fields = new TreeSet<>();
        for (Field f : SilentAfter.class.getDeclaredFields()) {
            if (!Modifier.isPrivate(f.getModifiers())) {
                fields.add(f.getType().getName() + " " + f.getName());
                holds(f.getName() + " is public, static, final",
                        (f.getModifiers() & 0x19) == (Modifier.PUBLIC | Modifier.STATIC | Modifier.FINAL));
            }
        }
        holds("constants " + fields, fields.equals(new TreeSet<>(Arrays.asList(FIELDS))));
        holds("the class is public and final",
                Modifier.isPublic(SilentAfter.class.getModifiers()) && Modifier.isFinal(SilentAfter.class.getModifiers()));
        holds("one public constructor", SilentAfter.class.getConstructors().length == 1
                && SilentAfter.class.getDeclaredConstructors().length == 1);
    }

    private static void privateNames() {
        Set<String> open = new HashSet<>();
        for (Method m : SilentAfter.class.getMethods()) {
            open.add(m.getName());
        }
        for (Method m : SilentAfter.class.getDeclaredMethods()) {
            holds("private " + m.getName() + " bears no public name",
                    !Modifier.isPrivate(m.getModifiers()) || !open.contains(m.getName()));
            holds(m.getName() + " takes seven parameters at most", m.getParameterCount() <= 7);
        }
    }

    private static void insideClasses() {
        Class<?>[] inside = SilentAfter.class.getDeclaredClasses();
        holds("twelve classes at most", inside.length + 1 <= 12);
        for (Class<?> c : inside) {
            holds(c.getName() + " is static and not public",
                    Modifier.isStatic(c.getModifiers()) && !Modifier.isPublic(c.getModifiers()));
            for (Field f : c.getDeclaredFields()) {
                holds(c.getName() + "." + f.getName() + ": static only if final",
                        !Modifier.isStatic(f.getModifiers()) || Modifier.isFinal(f.getModifiers()));
            }
        }
    }

    private static void sourceWords() throws IOException {
        String code = Files.readString(SOURCE).replaceAll("(?s)/\\*.*?\\*/", "").replaceAll("//[^\n]*", "");
        for (String word : RULED_OUT) {
            holds("no \"" + word + "\"", !code.contains(word));
        }
        Matcher made = Pattern.compile("\\bnew ").matcher(code);
        while (made.find()) {
            String line = code.substring(code.lastIndexOf('\n', made.start()) + 1, code.indexOf('\n', made.start())).trim();
            // Calls make nothing: all is made for fields, and for the search's valleys in its constructor.
            holds("made with the object: " + line,
                    line.startsWith("private final ") || line.equals("valleys[depth] = new Valley();"));
        }
        // No method has an empty line in it, and each has one ahead of it.
        for (String block : code.split("\n\\s*\n")) {
            holds("methods are short: " + block, block.split("\n").length <= 60);
        }
    }
}
