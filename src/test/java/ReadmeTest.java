import java.io.IOException;
import java.lang.reflect.Method;
import java.lang.reflect.Modifier;
import java.nio.file.Files;
import java.nio.file.Path;
import java.util.List;
import java.util.Set;
import java.util.TreeSet;
import java.util.regex.Matcher;
import java.util.regex.Pattern;
import java.util.stream.Stream;

/** The README's examples answer what stands behind each call, and its table names every call. */
public final class ReadmeTest {
    private static final Path README = Path.of("README.md");
    private static final Pattern MADE = Pattern.compile("ChainKeeper store = new ChainKeeper\\((.*)\\);");
    private static final Pattern CALL =
        Pattern.compile("store\\.(\\w+)\\((.*?)\\); +// (-?\\d+|true|false)(:.*)?");
    private static final Pattern ROW = Pattern.compile("\\| `(\\w+)\\(.*");

    private static int wrong = 0;
    private static int called = 0;

    private static void say(String fault) {
        wrong++;
        System.out.println(fault);
    }

    private static int[] numbers(String list) {
        if (list.isEmpty()) {
            return new int[0];
        }
        return Stream.of(list.split(", ")).mapToInt(Integer::parseInt).toArray();
    }

    private static Object call(ChainKeeper store, String name, int[] arguments) throws ReflectiveOperationException {
        Class<?>[] types = new Class<?>[arguments.length];
        Object[] values = new Object[arguments.length];
        for (int i = 0; i < arguments.length; i++) {
            types[i] = int.class;
            values[i] = arguments[i];
        }
        return ChainKeeper.class.getMethod(name, types).invoke(store, values);
    }

    private static void runExamples(List<String> lines) throws ReflectiveOperationException {
        boolean inExample = false;
        ChainKeeper store = null;
        for (String line : lines) {
            if (line.startsWith("```")) {
                inExample = line.equals("```java");
            } else if (inExample) {
                Matcher made = MADE.matcher(line);
                if (made.matches()) {
                    int[] arguments = numbers(made.group(1));
                    store = new ChainKeeper(arguments[0], arguments[1]);
                } else {
                    runCall(store, line);
                }
            }
        }
    }

    private static void runCall(ChainKeeper store, String line) throws ReflectiveOperationException {
        Matcher m = CALL.matcher(line);
        if (store == null || !m.matches()) {
            say("this line can't be run: " + line);
            return;
        }
        called++;
        String got = call(store, m.group(1), numbers(m.group(2))).toString();
        if (!got.equals(m.group(3))) {
            say("answered " + got + ": " + line);
        }
    }

    private static void checkTable(List<String> lines) {
        Set<String> named = new TreeSet<>();
        for (String line : lines) {
            Matcher m = ROW.matcher(line);
            if (m.matches()) {
                named.add(m.group(1));
            }
        }
        Set<String> due = new TreeSet<>();
        for (Method m : ChainKeeper.class.getDeclaredMethods()) {
            if (Modifier.isPublic(m.getModifiers())) {
                due.add(m.getName());
            }
        }
        if (!named.equals(due)) {
            say("the table names " + named + ", due is " + due);
        }
    }

    public static void main(String[] args) throws IOException, ReflectiveOperationException {
        List<String> lines = Files.readAllLines(README);
        runExamples(lines);
        checkTable(lines);
        if (called == 0) {
            say("no example was found");
        }
        System.out.println(wrong == 0 ? "all answers are as due" : wrong + " answers are not as due");
        if (wrong != 0) {
            System.exit(1);
        }
    }
}
