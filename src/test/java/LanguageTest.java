import com.sun.source.tree.CompilationUnitTree;
import com.sun.source.util.JavacTask;
import com.sun.source.util.Trees;
import java.nio.charset.StandardCharsets;
import java.nio.file.Files;
import java.nio.file.Path;
import java.util.List;
import java.util.Locale;
import javax.tools.JavaCompiler;
import javax.tools.JavaFileObject;
import javax.tools.StandardJavaFileManager;
import javax.tools.ToolProvider;

/** The source, as the compiler has read it, keeps to the rules of ../shared/LANGUAGE.md. */
public final class LanguageTest {
    private static final Path SOURCE = Path.of("src/main/java/OneThread.java");
    private static final int DEEPEST = 8;

    public static void main(String[] args) throws Exception {
        Path source = args.length > 0 ? Path.of(args[0]) : SOURCE;
        JavaCompiler compiler = ToolProvider.getSystemJavaCompiler();
        SourceRules rules;
        try (StandardJavaFileManager files = compiler.getStandardFileManager(null, Locale.ROOT, StandardCharsets.UTF_8)) {
            Iterable<? extends JavaFileObject> units = files.getJavaFileObjects(source);
            JavacTask task = (JavacTask) compiler.getTask(null, files, null, List.of("-proc:none"), null, units);
            CompilationUnitTree unit = task.parse().iterator().next();
            task.analyze();
            rules = new SourceRules(Trees.instance(task), unit);
            rules.scan(unit, null);
        }
        rules.check(4, "a sign that is not among 1 to 127", Files.readString(source).chars().allMatch(c -> c >= 1 && c <= 127));
        rules.check(11, "twelve classes at most, not " + rules.classes(), rules.classes() <= 12);
        for (String way : rules.calls().waysDeeperThan(DEEPEST)) {
            rules.check(11, "calls more than eight deep: " + way, false);
        }
        for (String method : rules.calls().recursive()) {
            rules.check(8, method + " calls itself and is not private with its depth as an argument", rules.hasGuard(method));
        }
        System.out.println(rules.wrong() == 0 ? "language: all rules are kept" : "language: " + rules.wrong() + " rules are broken");
        if (rules.wrong() != 0) System.exit(1);
    }
}
