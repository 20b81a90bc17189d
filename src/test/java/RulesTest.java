import java.lang.reflect.Constructor;
import java.lang.reflect.Field;
import java.lang.reflect.Method;
import java.lang.reflect.Modifier;
import java.nio.charset.StandardCharsets;
import java.nio.file.Files;
import java.nio.file.Path;
import java.util.ArrayList;
import java.util.Arrays;
import java.util.HashSet;
import java.util.List;
import java.util.Set;
import java.util.TreeSet;
import java.util.regex.Matcher;
import java.util.regex.Pattern;

/** The face is the document's and no more, and no call throws for odd arguments. */
public final class RulesTest {
    private static int wrong = 0;

    public static void main(String[] args) throws Exception {
        names(face());
        oddArguments();
        System.out.println(wrong == 0 ? "rules: all are kept" : "rules: " + wrong + " are broken");
        if (wrong != 0) System.exit(1);
    }

    private static void check(String rule, boolean kept) {
        if (!kept) {
            wrong++;
            System.out.println("rules: " + rule);
        }
    }

    /** The face as the document has it, so many methods that a missing one does not go unseen. */
    private static Set<String> face() throws Exception {
        String document = Files.readString(Path.of("../shared/DOC.md"), StandardCharsets.UTF_8);
        Set<String> due = new TreeSet<>();
        Matcher m = Pattern.compile("    public (int|boolean) (\\w+)\\(([^)]*)\\);").matcher(document);
        while (m.find()) due.add(m.group(1) + " " + m.group(2) + "(" + m.group(3).replaceAll(" \\w+(,|$)", "$1") + ")");
        Set<String> names = new HashSet<>();
        Set<String> has = new TreeSet<>();
        for (Method method : OneThread.class.getDeclaredMethods()) {
            if (Modifier.isPrivate(method.getModifiers())) continue;
            names.add(method.getName());
            List<String> types = new ArrayList<>();
            for (Class<?> type : method.getParameterTypes()) types.add(type.getName());
            has.add(method.getReturnType() + " " + method.getName() + "(" + String.join(", ", types) + ")");
            check(method + " is public and of the object", method.getModifiers() == Modifier.PUBLIC);
        }
        check("30 methods in the document", due.size() == 30);
        check("the face: due " + due + ", has " + has, due.equals(has));
        Constructor<?>[] constructors = OneThread.class.getDeclaredConstructors();
        check("one public constructor", constructors.length == 1 && Modifier.isPublic(constructors[0].getModifiers()));
        check("public and final", OneThread.class.getModifiers() == (Modifier.PUBLIC | Modifier.FINAL));
        for (Field field : OneThread.class.getDeclaredFields()) {
            boolean constant = field.getName().equals("NONE");
            check(field + " is private, or NONE", constant ? Modifier.isPublic(field.getModifiers()) : Modifier.isPrivate(field.getModifiers()));
        }
        return names;
    }

    /** No method that is not of the face bears the name of one that is, in no class. */
    private static void names(Set<String> names) {
        List<Class<?>> all = new ArrayList<>(Arrays.asList(OneThread.class.getDeclaredClasses()));
        all.add(OneThread.class);
        for (Class<?> one : all) {
            for (Method method : one.getDeclaredMethods()) {
                boolean hidden = one != OneThread.class || Modifier.isPrivate(method.getModifiers());
                check(method + " bears the name of a public one", !hidden || !names.contains(method.getName()));
            }
        }
    }

    /** Every call with every choice of odd numbers, in some states: the machine never throws. */
    private static void oddArguments() throws Exception {
        int[] odd = {Integer.MIN_VALUE, -2, -1, 0, 1, 3, 24, 120, Integer.MAX_VALUE};
        for (Method method : OneThread.class.getDeclaredMethods()) {
            if (!Modifier.isPublic(method.getModifiers())) continue;
            int many = method.getParameterCount();
            int choices = (int) Math.pow(odd.length, Math.min(many, 3));
            for (int choice = 0; choice < choices; choice++) {
                Object[] args = new Object[many];
                int rest = choice;
                for (int i = 0; i < many; i++) {
                    boolean flag = method.getParameterTypes()[i] == boolean.class;
                    args[i] = flag ? (Object) (rest % 2 == 0) : (Object) odd[rest % odd.length];
                    rest = i < 2 ? rest / odd.length : rest + 1;
                }
                method.invoke(state(choice % 3), args);
            }
        }
    }

    private static OneThread state(int kind) {
        OneThread x = new OneThread();
        if (kind == 0) return x;
        x.board(kind == 1 ? 2 : 8);
        for (int i = 0; i < 24; i++) x.pin(i % 3, i / 3);
        for (int i = 0; i < 120; i++) x.winding(i % 3, i / 3 % 4);
        for (int i = 1; i <= 20; i++) x.line(i / 3, 3 + i / 2);
        x.image(true);
        x.feed(0x6d61793b, 0, 0, 0, 0);
        if (kind == 2) x.end(4);
        return x;
    }
}
