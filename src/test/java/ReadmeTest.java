import java.io.IOException;
import java.io.UncheckedIOException;
import java.lang.reflect.Field;
import java.lang.reflect.Method;
import java.lang.reflect.Modifier;
import java.net.URL;
import java.net.URLClassLoader;
import java.nio.file.Files;
import java.nio.file.Path;
import java.util.ArrayList;
import java.util.Comparator;
import java.util.List;
import java.util.Map;
import java.util.Set;
import java.util.TreeMap;
import java.util.TreeSet;
import java.util.regex.Matcher;
import java.util.regex.Pattern;
import java.util.stream.Stream;
import javax.tools.JavaCompiler;
import javax.tools.ToolProvider;

/**
 * What README.md shows is true of the class: its examples answer what stands behind them, its
 * tables have the constants and all methods, each with the codes that it can answer, and the files
 * and tests that it names are there. The work directory must be that of the project.
 */
public final class ReadmeTest extends Check {
    /** So many that each code of each method is met. */
    private static final int RUNS = 300;
    private static final Pattern EXAMPLE = Pattern.compile("(?ms)^```java\n(.*?)^```$");
    private static final Pattern SHOWN =
            Pattern.compile("(?:int (\\w+) = )?(maker\\.\\w+\\(.*\\)); *// ([-\\w]+): .*");
    private static final Pattern ROW = Pattern.compile("(?m)^\\| `(\\w+)(?:\\((.*?)\\))?` \\|(.*)\\|(.*)\\|$");

    public static void main(String[] args) throws ReflectiveOperationException, IOException {
        String page = Files.readString(Path.of("README.md"));
        Matcher example = EXAMPLE.matcher(page);
        int examples = 0;
        while (example.find()) {
            runExample(example.group(1));
            examples++;
        }
        isTrue("there are examples", examples > 0);
        constants(page);
        methods(page);
        files(page);
        end();
    }

    private static void runExample(String example) throws ReflectiveOperationException, IOException {
        StringBuilder program = new StringBuilder("public class Example {\n")
                .append("public static java.util.List<Integer> answers() {\n")
                .append("java.util.List<Integer> answers = new java.util.ArrayList<>();\n");
        List<String> calls = new ArrayList<>();
        List<Integer> dues = new ArrayList<>();
        for (String line : example.split("\n")) {
            Matcher shown = SHOWN.matcher(line);
            if (shown.matches()) {
                String call = shown.group(2);
                String variable = shown.group(1);
                if (variable != null) {
                    program.append("int ").append(variable).append(" = ").append(call).append(";\n");
                }
                program.append("answers.add(").append(variable == null ? call : variable).append(");\n");
                calls.add(call);
                dues.add(valueOf(shown.group(3)));
            } else {
                isTrue("the answer stands behind " + line, !line.matches("(int|maker)\\b.*"));
                program.append(line).append('\n');
            }
        }
        List<?> answers = answersOf(program.append("return answers;\n}\n}\n").toString());
        due("calls that answered", answers.size(), calls.size());
        for (int i = 0; i < Math.min(answers.size(), calls.size()); i++) {
            due("README.md: " + calls.get(i), (Integer) answers.get(i), dues.get(i));
        }
    }

    private static int valueOf(String shown) throws ReflectiveOperationException {
        boolean number = shown.matches("-?\\d+");
        return number ? Integer.parseInt(shown) : PredictionMaker.class.getField(shown).getInt(null);
    }

    private static List<?> answersOf(String program) throws ReflectiveOperationException, IOException {
        JavaCompiler compiler = ToolProvider.getSystemJavaCompiler();
        if (compiler == null) {
            throw new IllegalStateException("this Java has no compiler");
        }
        Path directory = Files.createTempDirectory("readme");
        try {
            Path source = Files.writeString(directory.resolve("Example.java"), program);
            String known = System.getProperty("java.class.path");
            int code = compiler.run(null, System.out, System.out, "-cp", known, "-d",
                    directory.toString(), source.toString());
            due("compiling an example of README.md", code, 0);
            if (code != 0) {
                return List.of();
            }
            try (URLClassLoader loader = new URLClassLoader(new URL[] {directory.toUri().toURL()})) {
                return (List<?>) loader.loadClass("Example").getMethod("answers").invoke(null);
            }
        } finally {
            delete(directory);
        }
    }

    private static void delete(Path directory) throws IOException {
        try (Stream<Path> inside = Files.walk(directory)) {
            inside.sorted(Comparator.reverseOrder()).forEach(path -> {
                try {
                    Files.delete(path);
                } catch (IOException e) {
                    throw new UncheckedIOException(e);
                }
            });
        }
    }

    private static void constants(String page) throws ReflectiveOperationException {
        Map<String, String> shown = new TreeMap<>();
        Matcher row = ROW.matcher(page);
        while (row.find()) {
            if (row.group(2) == null) {
                shown.put(row.group(1), row.group(3).trim());
            }
        }
        for (Field field : PredictionMaker.class.getFields()) {
            String value = String.valueOf(field.getInt(null));
            isTrue("README.md: the constant " + field.getName(), value.equals(shown.remove(field.getName())));
        }
        isTrue("README.md: no more constants than " + shown, shown.isEmpty());
    }

    private static void methods(String page) {
        Map<String, Integer> parameters = new TreeMap<>();
        Map<String, Set<String>> codes = new TreeMap<>();
        Matcher row = ROW.matcher(page);
        while (row.find()) {
            if (row.group(2) != null) {
                String name = row.group(1);
                isTrue("README.md: one row for " + name, !codes.containsKey(name));
                parameters.put(name, row.group(2).isEmpty() ? 0 : row.group(2).split(", ").length);
                codes.put(name, codesIn(row.group(4)));
            }
        }
        Set<String> met = ModelTest.refusals(RUNS);
        for (Method method : PredictionMaker.class.getDeclaredMethods()) {
            String name = method.getName();
            if (Modifier.isPublic(method.getModifiers())) {
                int due = method.getParameterCount();
                due("README.md: arguments of " + name, parameters.getOrDefault(name, -1), due);
                compareCodes(name, codes.getOrDefault(name, Set.of()), met);
                codes.remove(name);
            }
        }
        isTrue("README.md: no more methods than " + codes.keySet(), codes.isEmpty());
    }

    private static Set<String> codesIn(String cell) {
        Set<String> found = new TreeSet<>();
        Matcher code = Pattern.compile("`([A-Z_]+)`").matcher(cell);
        while (code.find()) {
            found.add(code.group(1));
        }
        return found;
    }

    private static void compareCodes(String method, Set<String> shown, Set<String> met) {
        String[] names = {"NONE", "BAD_ARGUMENT", "FULL", "STATE", "NOT_ENOUGH"};
        int[] codes = {NONE, BAD_ARGUMENT, FULL, STATE, NOT_ENOUGH};
        for (int i = 0; i < codes.length; i++) {
            boolean answered = met.contains(method + codes[i]);
            isTrue("README.md: " + method + " and " + names[i], answered == shown.contains(names[i]));
        }
    }

    private static void files(String page) throws ReflectiveOperationException {
        Matcher test = Pattern.compile("\\b[A-Z]\\w+Test\\b").matcher(page);
        while (test.find()) {
            Class.forName(test.group());
        }
        Matcher path = Pattern.compile("(?:\\.\\./shared|src|\\.ci)/[\\w/]*(?:\\.\\w+)?").matcher(page);
        while (path.find()) {
            isTrue("README.md: " + path.group() + " is there", Files.exists(Path.of(path.group())));
        }
    }
}
