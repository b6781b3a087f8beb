import java.io.IOException;
import java.lang.reflect.Method;
import java.net.URL;
import java.net.URLClassLoader;
import java.nio.file.Files;
import java.nio.file.Path;
import java.util.ArrayList;
import java.util.List;
import java.util.Set;
import java.util.TreeSet;
import java.util.regex.Matcher;
import java.util.regex.Pattern;
import javax.tools.ToolProvider;

/** What README.md shows of the class is so: its examples compile, each call answers what stands behind it. */
public final class ReadmeTest {
    private static final Path README = Path.of("README.md");
    /** A call, perhaps kept in a variable, and the answer as a number or by its constant. */
    private static final Pattern SHOWN =
            Pattern.compile("(?:(?:int|long) (\\w+) = )?(grid\\.(\\w+)\\(.*\\)); +// (-?\\d+|NONE|BAD|STATE|FULL|NO)(?:: .*)?");
    private static final String BEFORE = "public final class ReadmeRuns {\n"
            + "    private static int wrong = 0;\n"
            + "    private static void due(String call, long got, long want) {\n"
            + "        if (got == want) return;\n"
            + "        wrong++;\n"
            + "        System.out.println(call + \" answered \" + got + \", README.md says \" + want);\n"
            + "    }\n"
            + "    public static int run() {\n";
    private static final String BEHIND = "        return wrong;\n    }\n}\n";

    private static final Set<String> calls = new TreeSet<>();
    private static int shown = 0;
    private static int wrong = 0;

    private static void tellWrong(String what) {
        wrong++;
        System.out.println(what);
    }

    private static List<String> examples(String text) {
        List<String> list = new ArrayList<>();
        Matcher m = Pattern.compile("```java\n(.*?)```", Pattern.DOTALL).matcher(text);
        while (m.find()) list.add(m.group(1));
        return list;
    }

    /** The line as a test of itself; what shows no answer is taken as it stands. */
    private static String asTest(String line) {
        Matcher m = SHOWN.matcher(line);
        if (!m.matches()) {
            if (line.contains("//")) tellWrong("no answer can be read from: " + line);
            return line + "\n";
        }
        shown++;
        calls.add(m.group(3));
        String answer = Character.isLetter(m.group(4).charAt(0)) ? "LooseGrid." + m.group(4) : m.group(4);
        String told = "due(\"" + m.group(2).replace("\"", "\\\"") + "\", ";
        if (m.group(1) == null) return told + m.group(2) + ", " + answer + ");\n";
        return "int " + m.group(1) + " = " + m.group(2) + ";\n" + told + m.group(1) + ", " + answer + ");\n";
    }

    private static String program(List<String> examples) {
        StringBuilder s = new StringBuilder(BEFORE);
        for (String example : examples) {
            s.append("{\n");
            for (String line : example.split("\n")) s.append(asTest(line));
            s.append("}\n");
        }
        return s.append(BEHIND).toString();
    }

    private static void carryOut(String program, Path dir) throws IOException, ReflectiveOperationException {
        Path file = dir.resolve("ReadmeRuns.java");
        Files.writeString(file, program);
        int failed = ToolProvider.getSystemJavaCompiler().run(null, null, null, "-cp",
                System.getProperty("java.class.path"), "-d", dir.toString(), file.toString());
        if (failed != 0) {
            tellWrong("an example does not compile");
            return;
        }
        try (URLClassLoader loader = new URLClassLoader(new URL[] {dir.toUri().toURL()})) {
            wrong += (int) loader.loadClass("ReadmeRuns").getMethod("run").invoke(null);
        }
    }

    private static void remove(Path dir) throws IOException {
        for (String name : new String[] {"ReadmeRuns.java", "ReadmeRuns.class"}) Files.deleteIfExists(dir.resolve(name));
        Files.delete(dir);
    }

    public static void main(String[] args) throws IOException, ReflectiveOperationException {
        String program = program(examples(Files.readString(README)));
        Path dir = Files.createTempDirectory("readme");
        try {
            carryOut(program, dir);
        } finally {
            remove(dir);
        }
        for (Method call : Grid.class.getDeclaredMethods()) {
            String name = call.getName();
            // feed is shown in a loop, without an answer
            if (!calls.contains(name) && !(name.equals("feed") && program.contains("grid.feed("))) tellWrong("README.md doesn't show " + name);
        }
        System.out.println(shown + " answers shown, " + wrong + " not as they are");
        if (wrong != 0) System.exit(1);
    }
}
