import java.io.File;
import java.io.IOException;
import java.lang.reflect.Field;
import java.lang.reflect.Method;
import java.lang.reflect.Modifier;
import java.net.URL;
import java.net.URLClassLoader;
import java.nio.file.Files;
import java.nio.file.Path;
import java.util.List;
import java.util.Set;
import java.util.TreeSet;
import java.util.regex.Matcher;
import java.util.regex.Pattern;
import javax.tools.ToolProvider;

/** README.md: its examples answer what stands behind their calls, and its lists name what is there. */
public final class ReadmeTest extends Checks {
    private static final Path README = Path.of("README.md");
    private static final Path BUILT = Path.of("build/readme");
    private static final Pattern JAVA_BLOCK = Pattern.compile("(?s)```java\n(.*?)```");
    /** A call that stands at the beginning of a line, and the number that its comment begins with. */
    private static final Pattern TOLD = Pattern.compile("(c\\.\\w+\\(.*\\));\\s*// (-?\\d+)\\b.*");
    private static final Pattern CALL = Pattern.compile("`(\\w+)\\(([a-z, ]*)\\)`");
    private static final Pattern CONSTANT = Pattern.compile("`([A-Z_]+) = (-?\\d+)`");
    private static final Pattern LISTED = Pattern.compile("(?m)^- `(\\w+)`:");

    private static String section(String readme, String from, String to) {
        int begin = readme.indexOf(from);
        int end = to.isEmpty() ? readme.length() : readme.indexOf(to);
        if (begin < 0 || end < begin) {
            fault("README.md has no part from " + from + " to " + to);
            return "";
        }
        return readme.substring(begin, end);
    }

    // ---- the examples

    /** The example as a class whose method answers what is wrong with it. */
    private static String program(String name, String example) {
        StringBuilder code = new StringBuilder("public final class " + name + " {\n"
                + "static void due(StringBuilder wrong, String call, int got, int want) {\n"
                + "if (got != want) { wrong.append(call + \" answered \" + got + \", README.md tells \" + want + \"; \"); } }\n"
                + "public static String wrong() {\nStringBuilder wrong = new StringBuilder();\n");
        int told = 0;
        for (String line : example.split("\n")) {
            Matcher m = TOLD.matcher(line);
            if (m.matches()) {
                told++;
                code.append("due(wrong, \"" + m.group(1) + "\", " + m.group(1) + ", " + m.group(2) + ");\n");
            } else {
                code.append(line).append('\n');
                if (line.startsWith("c.")) {
                    fault("README.md tells no answer: " + line);
                }
            }
        }
        if (told == 0) {
            fault("an example of README.md tells no answers");
        }
        return code.append("return wrong.toString();\n}\n}\n").toString();
    }

    private static void runExample(String name, String example) throws IOException, ReflectiveOperationException {
        Path folder = Files.createDirectories(BUILT);
        Path file = folder.resolve(name + ".java");
        Files.writeString(file, program(name, example));
        int failed = ToolProvider.getSystemJavaCompiler().run(null, null, null,
                "-cp", System.getProperty("java.class.path"), "-d", folder.toString(), file.toString());
        if (failed != 0) {
            fault(name + " of README.md does not compile");
            return;
        }
        try (URLClassLoader loader = new URLClassLoader(new URL[] {folder.toUri().toURL()})) {
            String wrong = (String) loader.loadClass(name).getMethod("wrong").invoke(null);
            if (!wrong.isEmpty()) {
                fault(name + " of README.md: " + wrong);
            }
        }
    }

    private static void examples(String readme) throws IOException, ReflectiveOperationException {
        int count = 0;
        Matcher m = JAVA_BLOCK.matcher(readme);
        while (m.find()) {
            count++;
            runExample("Example" + count, m.group(1));
        }
        if (count == 0) {
            fault("README.md has no example");
        }
    }

    // ---- the lists

    private static void checkSame(String what, Set<String> due, Set<String> told) {
        if (!due.equals(told)) {
            fault(what + ": there are " + due + ", README.md has " + told);
        }
    }

    private static void calls(String readme) {
        Set<String> due = new TreeSet<>();
        for (Method m : ConfinementAnalyzer.class.getDeclaredMethods()) {
            if (Modifier.isPublic(m.getModifiers())) {
                due.add(m.getName() + "/" + m.getParameterCount());
            }
        }
        Set<String> told = new TreeSet<>();
        Matcher m = CALL.matcher(section(readme, "### The calls", "Every call takes ints"));
        while (m.find()) {
            told.add(m.group(1) + "/" + (m.group(2).isEmpty() ? 0 : m.group(2).split(",").length));
        }
        checkSame("calls", due, told);
    }

    private static void constants(String readme) throws IllegalAccessException {
        Set<String> due = new TreeSet<>();
        for (Field f : ConfinementAnalyzer.class.getFields()) {
            if (f.getInt(null) < 0) {
                due.add(f.getName() + "=" + f.getInt(null));
            } else if (!readme.contains("`" + f.getName() + "`")) {
                fault("README.md does not name " + f.getName());
            }
        }
        Set<String> told = new TreeSet<>();
        Matcher m = CONSTANT.matcher(section(readme, "### The calls", "## Tests"));
        while (m.find()) {
            told.add(m.group(1) + "=" + m.group(2));
        }
        checkSame("constants below zero", due, told);
    }

    private static void tests(String readme) {
        Set<String> due = new TreeSet<>();
        for (String folder : List.of("src/test/java", "src/test/helpers")) {
            String[] names = new File(folder).list();
            for (String name : names == null ? new String[0] : names) {
                due.add(name.replace(".java", ""));
            }
        }
        Set<String> told = new TreeSet<>();
        Matcher m = LISTED.matcher(section(readme, "## Tests", ""));
        while (m.find()) {
            told.add(m.group(1));
        }
        checkSame("tests and what they share", due, told);
    }

    public static void main(String[] args) throws IOException, ReflectiveOperationException {
        String readme = Files.readString(README);
        examples(readme);
        calls(readme);
        constants(readme);
        tests(readme);
        end("README.md agrees with the class");
    }
}
