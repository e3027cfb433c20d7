import java.io.IOException;
import java.lang.reflect.Method;
import java.lang.reflect.Modifier;
import java.net.URL;
import java.net.URLClassLoader;
import java.nio.file.Files;
import java.nio.file.Path;
import java.util.ArrayList;
import java.util.Comparator;
import java.util.List;
import java.util.Set;
import java.util.TreeSet;
import java.util.regex.Matcher;
import java.util.regex.Pattern;
import java.util.stream.Stream;
import javax.tools.ToolProvider;

/** README.md says how to use the class: its Java must run with the answers told there, and nothing may be left out. */
public final class ReadmeTest {
    static final Pattern BLOCK = Pattern.compile("(?sm)^```java\n(.*?)^```$");
    static final Pattern ASKED = Pattern.compile("(?:int (\\w+) = )?(.*);\\s*// (-?\\d+|0b[01]+|NONE|BAD|KIND|FULL|STATE)(?::.*)?");

    static int wrong = 0;
    static int asked = 0;

    static void check(boolean holds, String what) {
        if (holds) return;
        wrong++;
        System.out.println("README.md: " + what);
    }

    public static void due(String call, long got, long want) {
        asked++;
        check(got == want, call + " answered " + got + ", not " + want);
    }

    /** A class whose main method runs each block of Java and tells 'due' every answer. */
    static String asProgram(String readme) {
        StringBuilder program = new StringBuilder("public final class Readme {\n public static void main(String[] args) {\n");
        Matcher blocks = BLOCK.matcher(readme);
        while (blocks.find()) {
            program.append("  {\n");
            for (String line : blocks.group(1).split("\n")) program.append("   ").append(asTest(line.strip())).append('\n');
            program.append("  }\n");
        }
        return program.append(" }\n}\n").toString();
    }

    static String asTest(String line) {
        Matcher m = ASKED.matcher(line);
        if (!m.matches()) {
            check(!line.contains("x."), "no answer behind: " + line);
            return line;
        }
        String want = Character.isLetter(m.group(3).charAt(0)) ? "OneCall." + m.group(3) : m.group(3);
        String got = m.group(1) == null ? m.group(2) : m.group(1);
        String test = "ReadmeTest.due(\"" + m.group(2) + "\", " + got + ", " + want + ");";
        return m.group(1) == null ? test : "int " + m.group(1) + " = " + m.group(2) + "; " + test;
    }

    static void run(String program) throws IOException, ReflectiveOperationException {
        Path dir = Files.createTempDirectory("readme");
        try {
            Path file = Files.writeString(dir.resolve("Readme.java"), program);
            String classes = System.getProperty("java.class.path");
            int failed = ToolProvider.getSystemJavaCompiler()
                    .run(null, null, null, "-d", dir.toString(), "-cp", classes, file.toString());
            check(failed == 0, "its Java does not compile");
            if (failed != 0) return;
            try (URLClassLoader loader = new URLClassLoader(new URL[] {dir.toUri().toURL()})) {
                loader.loadClass("Readme").getMethod("main", String[].class).invoke(null, (Object) new String[0]);
            }
        } finally {
            try (Stream<Path> files = Files.walk(dir)) {
                for (Path p : files.sorted(Comparator.reverseOrder()).toList()) Files.delete(p);
            }
        }
    }

    static Set<String> methods() {
        Set<String> names = new TreeSet<>();
        for (Method m : OneCall.class.getDeclaredMethods()) if (Modifier.isPublic(m.getModifiers())) names.add(m.getName());
        return names;
    }

    static void everyMethodIsTold(String readme) {
        for (String name : methods()) {
            check(Pattern.compile("(?m)^\\| `" + name + "\\(").matcher(readme).find(), "no row for " + name);
            check(Pattern.compile("\\bx\\." + name + "\\(").matcher(readme).find(), "no example of " + name);
        }
    }

    static void promisesAreThoseOfTheDocument(String readme, String doc) {
        List<String> told = new ArrayList<>();
        Matcher rows = Pattern.compile("(?m)^\\| `(\\w+)\\([^)]*\\)` \\| (\\d+) \\|").matcher(readme);
        while (rows.find()) told.add("Promise " + rows.group(2) + ": " + rows.group(1));
        List<String> due = new ArrayList<>();
        Matcher headings = Pattern.compile("(?m)^## (Promise \\d+: \\w+)$").matcher(doc);
        while (headings.find()) due.add(headings.group(1));
        check(told.equals(due), "the methods' rows are " + told + ", the document's promises " + due);
    }

    static void everyTestIsTold(String readme, Path tests) throws IOException {
        try (Stream<Path> files = Files.list(tests)) {
            for (Path p : files.toList()) {
                String name = p.getFileName().toString().replace(".java", "");
                check(readme.contains("- `" + name + "`:"), "no word on the test " + name);
            }
        }
        check(readme.contains(".ci/run"), "no word on .ci/run");
    }

    public static void main(String[] args) throws IOException, ReflectiveOperationException {
        Path root = Path.of(args.length > 0 ? args[0] : ".");
        String readme = Files.readString(root.resolve("README.md"));
        run(asProgram(readme));
        check(asked > 0, "nothing is asked");
        everyMethodIsTold(readme);
        everyTestIsTold(readme, root.resolve("src/test/java"));
        Path doc = root.resolve("../shared/DOC.md");
        if (Files.exists(doc)) promisesAreThoseOfTheDocument(readme, Files.readString(doc));
        System.out.println(asked + " answers of README.md, " + wrong + " things not as due");
        if (wrong != 0) System.exit(1);
    }
}
