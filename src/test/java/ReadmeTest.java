import java.io.IOException;
import java.lang.reflect.InvocationTargetException;
import java.lang.reflect.Method;
import java.lang.reflect.Modifier;
import java.nio.file.DirectoryStream;
import java.nio.file.Files;
import java.nio.file.Path;
import java.util.ArrayList;
import java.util.List;
import java.util.Set;
import java.util.TreeSet;
import java.util.regex.Matcher;
import java.util.regex.Pattern;

/** README.md's example answers what it says, and README.md names every method and every test. */
public final class ReadmeTest {
    private static final Path README = Path.of("README.md");
    private static final Path TESTS = Path.of("src/test/java");

    private static final String NEW_OBJECT = "LiquidChecker x = new LiquidChecker();";
    private static final Pattern CALL =
            Pattern.compile("x\\.(\\w+)\\((-?\\d+(?:, -?\\d+)*)\\); +// (-?\\d+|throws \\w+): .*");
    private static final Pattern EXCEPTION = Pattern.compile("`(\\w+Exception)`");

    private static int answers = 0;
    private static int wrong = 0;

    private static void hold(boolean holds, String what) {
        if (!holds) {
            wrong++;
            System.out.println("README.md: " + what);
        }
    }

    private static Set<Method> methods() {
        Set<Method> found = new TreeSet<>((one, other) -> one.getName().compareTo(other.getName()));
        for (Method method : LiquidChecker.class.getDeclaredMethods()) {
            if (Modifier.isPublic(method.getModifiers())) {
                found.add(method);
            }
        }
        return found;
    }

    /** The lines of all blocks that are marked as Java. */
    private static List<String> example(List<String> lines) {
        List<String> example = new ArrayList<>();
        boolean inside = false;
        for (String line : lines) {
            if (line.startsWith("```")) {
                inside = line.equals("```java");
            } else if (inside) {
                example.add(line);
            }
        }
        return example;
    }

    private static String answer(LiquidChecker x, String name, String written) {
        String[] numbers = written.split(", ");
        Object[] arguments = new Object[numbers.length];
        Class<?>[] types = new Class<?>[numbers.length];
        for (int i = 0; i < numbers.length; i++) {
            arguments[i] = Integer.valueOf(numbers[i]);
            types[i] = int.class;
        }
        try {
            return String.valueOf(LiquidChecker.class.getMethod(name, types).invoke(x, arguments));
        } catch (InvocationTargetException e) {
            return "throws " + e.getCause().getClass().getSimpleName();
        } catch (ReflectiveOperationException e) {
            return "no such method";
        }
    }

    private static void exampleAnswers(List<String> example) {
        LiquidChecker x = null;
        Set<String> used = new TreeSet<>();
        for (String line : example) {
            Matcher call = CALL.matcher(line);
            if (line.equals(NEW_OBJECT)) {
                x = new LiquidChecker();
            } else if (call.matches()) {
                hold(x != null, "no object is made before " + line);
                String got = answer(x == null ? new LiquidChecker() : x, call.group(1), call.group(2));
                hold(got.equals(call.group(3)), "answered " + got + ", told is " + line);
                used.add(call.group(1));
                answers++;
            } else {
                hold(line.isEmpty() || line.startsWith("// "), "neither a call with its answer nor a comment: " + line);
            }
        }
        for (Method method : methods()) {
            hold(used.contains(method.getName()), "the example does not use " + method.getName());
        }
    }

    private static void methodsAreTold(List<String> lines) {
        for (Method method : methods()) {
            String row = "";
            for (String line : lines) {
                row = line.startsWith("| `" + method.getName() + "(") ? line : row;
            }
            hold(!row.isEmpty(), "no row tells what " + method.getName() + " is for");
            int parameters = row.isEmpty() ? 0 : row.substring(0, row.indexOf(')')).split(",").length;
            hold(parameters == method.getParameterCount(), "other parameters than " + method);
            List<String> told = new ArrayList<>();
            Matcher exception = EXCEPTION.matcher(row);
            while (exception.find()) {
                told.add(exception.group(1));
            }
            List<String> declared = new ArrayList<>();
            for (Class<?> type : method.getExceptionTypes()) {
                declared.add(type.getSimpleName());
            }
            // The one that all of them throw is told once, above the rows.
            declared.remove("IllegalArgumentException");
            hold(told.equals(declared), method.getName() + " throws " + declared + ", told is " + told);
        }
    }

    private static void testsAreTold(String text) throws IOException {
        hold(text.contains("\n.ci/run\n"), "the command that runs the tests is not told");
        hold(text.contains("`../shared/tests`"), "the tests under ../shared/tests are not told");
        try (DirectoryStream<Path> tests = Files.newDirectoryStream(TESTS, "*.java")) {
            for (Path test : tests) {
                hold(text.contains("- `src/test/java/" + test.getFileName() + "`: "), "nothing is told of " + test);
            }
        }
    }

    public static void main(String[] args) throws IOException {
        List<String> lines = Files.readAllLines(README);
        exampleAnswers(example(lines));
        methodsAreTold(lines);
        testsAreTold(String.join("\n", lines));
        System.out.println(answers + " answers of README.md's example"
                + (wrong == 0 ? ", all as told" : "; " + wrong + " things are not as told"));
        if (wrong != 0) {
            System.exit(1);
        }
    }
}
