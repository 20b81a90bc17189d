import java.io.IOException;
import java.lang.reflect.Method;
import java.lang.reflect.Modifier;
import java.net.URL;
import java.net.URLClassLoader;
import java.nio.charset.StandardCharsets;
import java.nio.file.Files;
import java.nio.file.Path;
import java.util.ArrayList;
import java.util.List;
import java.util.Set;
import java.util.TreeSet;
import java.util.regex.Matcher;
import java.util.regex.Pattern;
import java.util.stream.Stream;
import javax.tools.ToolProvider;

/** What README.md says is so: its examples are compiled and run, and its lists are whole. */
public final class ReadmeTest {
    /** A row of an example that asks: what is asked, and the answer that stands behind it. */
    private static final Pattern ASKED = Pattern.compile("(int \\w+ = )?(x\\.(\\w+)\\(.*\\));\\s*// (-?\\d+|true|false)(:.*)?");
    private static int wrong = 0;

    public static void main(String[] args) throws Exception {
        String readme = Files.readString(Path.of("README.md"), StandardCharsets.UTF_8);
        Set<String> asked = new TreeSet<>();
        String program = programOf(readme, asked);
        check("every call is in an example: " + asked, asked.equals(calls()));
        run(program);
        lists(readme);
        System.out.println(wrong == 0 ? "readme: all is as it says" : "readme: " + wrong + " things are not as it says");
        if (wrong != 0) System.exit(1);
    }

    private static void check(String what, boolean so) {
        if (!so) {
            wrong++;
            System.out.println("readme: " + what);
        }
    }

    /** Called by the program that the examples make. */
    public static void due(String call, Object got, String want) {
        check(call + " answered " + got + ", the page says " + want, String.valueOf(got).equals(want));
    }

    private static Set<String> calls() {
        Set<String> names = new TreeSet<>();
        for (Method method : OneThread.class.getDeclaredMethods()) {
            if (Modifier.isPublic(method.getModifiers())) names.add(method.getName());
        }
        return names;
    }

    /** A block that begins with static is a helper; each other one is an example on an object of its own. */
    private static String programOf(String readme, Set<String> asked) {
        StringBuilder helpers = new StringBuilder();
        StringBuilder examples = new StringBuilder();
        Matcher blocks = Pattern.compile("(?s)```java\n(.*?)```").matcher(readme);
        while (blocks.find()) {
            String block = blocks.group(1);
            if (block.startsWith("static ")) helpers.append(block);
            else examples.append("{\n").append(exampleOf(block, asked)).append("}\n");
        }
        return "public final class Examples {\n" + helpers + "public static void main(String[] args) {\n" + examples + "}\n}\n";
    }

    private static String exampleOf(String block, Set<String> asked) {
        StringBuilder code = new StringBuilder();
        for (String row : block.split("\n")) {
            Matcher m = ASKED.matcher(row);
            boolean asks = m.matches();
            check("a row without its answer: " + row, asks || !row.startsWith("x.") && !row.startsWith("int "));
            if (!asks) {
                code.append(row).append('\n');
                continue;
            }
            asked.add(m.group(3));
            String call = m.group(2);
            String value = call;
            if (m.group(1) != null) {
                code.append(m.group(1)).append(call).append(";\n");
                value = m.group(1).split(" ")[1];
            }
            code.append("ReadmeTest.due(\"").append(call).append("\", ").append(value).append(", \"").append(m.group(4)).append("\");\n");
        }
        return code.toString();
    }

    private static void run(String program) throws Exception {
        Path room = Files.createTempDirectory("readme");
        try {
            Path file = room.resolve("Examples.java");
            Files.writeString(file, program);
            int failed = ToolProvider.getSystemJavaCompiler().run(null, null, null,
                "-cp", System.getProperty("java.class.path"), "-d", room.toString(), file.toString());
            check("the examples compile", failed == 0);
            if (failed != 0) return;
            try (URLClassLoader loader = new URLClassLoader(new URL[] {room.toUri().toURL()})) {
                loader.loadClass("Examples").getMethod("main", String[].class).invoke(null, (Object) new String[0]);
            }
        } finally {
            for (Path file : filesIn(room)) Files.delete(file);
            Files.delete(room);
        }
    }

    private static List<Path> filesIn(Path directory) throws IOException {
        try (Stream<Path> files = Files.list(directory)) {
            return new ArrayList<>(files.toList());
        }
    }

    /** Files of the tests are named by the page, and the script that it names can be run. */
    private static void lists(String readme) throws IOException {
        for (Path file : filesIn(Path.of("src/test/java"))) {
            String name = file.getFileName().toString().replace(".java", "");
            check(name + " is named", readme.contains("`" + name + "`"));
        }
        Matcher named = Pattern.compile("`([A-Z][a-z]+[A-Z]\\w+)`").matcher(readme);
        while (named.find()) {
            check(named.group(1) + " is there", Files.exists(Path.of("src/test/java", named.group(1) + ".java")));
        }
        check(".ci/run can be run", readme.contains("    .ci/run\n") && Files.isExecutable(Path.of(".ci/run")));
    }
}
