import java.io.IOException;
import java.lang.reflect.Method;
import java.lang.reflect.Modifier;
import java.net.URL;
import java.net.URLClassLoader;
import java.nio.file.Files;
import java.nio.file.Path;
import java.util.ArrayList;
import java.util.HashMap;
import java.util.List;
import java.util.Map;
import java.util.regex.Matcher;
import java.util.regex.Pattern;
import java.util.stream.Stream;
import javax.tools.ToolProvider;

/**
 * README.md tells the truth: its example compiles, each call there answers what the comment beside
 * it says, and every call and every test is told of. It is run from the project's folder.
 */
public final class InjectorTreeReadme {
    private static final String FIRST_LINE = "InjectorTree tree = new InjectorTree();";
    /** A line of the example: a call, perhaps with a variable for its answer, and "= answer: why". */
    private static final Pattern STEP =
            Pattern.compile("((?:int|long) (\\w+) = )?(.*tree\\..*);\\s*// = ([^:]+)(:.*)?");
    private static final Pattern CONSTANT_NAME = Pattern.compile("[A-Z]{2,}");
    /** A call in the table of calls, told as `name(parameters)`. */
    private static final Pattern TOLD = Pattern.compile("`(\\w+)\\(([^)`]*)\\)`");

    private static int wrong = 0;

    private static void due(boolean holds, String what) {
        if (!holds) {
            wrong++;
            System.out.println("README.md: " + what);
        }
    }

    public static void main(String[] args) throws IOException, ReflectiveOperationException {
        List<String> lines = Files.readAllLines(Path.of("README.md"));
        String text = String.join("\n", lines);
        List<String> steps = checkedSteps(exampleOf(lines));
        due(!steps.isEmpty(), "has no example");
        runExample(steps);
        everyCallIsTold(text);
        everyTestIsTold(text);
        due(lines.contains("    .ci/run"), "does not say how to run the tests");
        if (wrong != 0) {
            System.exit(1);
        }
    }

    private static List<String> exampleOf(List<String> lines) {
        int start = lines.indexOf("```java");
        List<String> rest = lines.subList(start + 1, lines.size());
        int end = rest.indexOf("```");
        return start < 0 || end < 0 ? List.of() : rest.subList(0, end);
    }

    /** The example's lines as statements that look at each answer. */
    private static List<String> checkedSteps(List<String> example) {
        List<String> steps = new ArrayList<>();
        for (String line : example) {
            Matcher step = STEP.matcher(line);
            if (step.matches()) {
                boolean named = step.group(1) != null;
                String want = CONSTANT_NAME.matcher(step.group(4)).replaceAll("InjectorTree.$0");
                steps.add(named ? step.group(1) + step.group(3) + ";" : "");
                steps.add("wrong += (" + (named ? step.group(2) : step.group(3)) + ") == " + want
                        + " ? 0 : tell(\"" + line + "\");");
            } else {
                due(line.isEmpty() || line.equals(FIRST_LINE), "not a call and its answer: " + line);
                steps.add(line);
            }
        }
        return steps;
    }

    private static void runExample(List<String> steps)
            throws IOException, ReflectiveOperationException {
        Path folder = Files.createTempDirectory("readme");
        Path source = folder.resolve("Example.java");
        Files.writeString(source, "public class Example {\n"
                + "static int tell(String line) { System.out.println(line); return 1; }\n"
                + "public static int wrongAnswers() { int wrong = 0;\n"
                + String.join("\n", steps) + "\nreturn wrong; } }\n");
        int refused = ToolProvider.getSystemJavaCompiler().run(null, null, null,
                "-cp", System.getProperty("java.class.path"), "-d", folder.toString(),
                source.toString());
        due(refused == 0, "the example does not compile");
        if (refused == 0) {
            try (URLClassLoader loader = new URLClassLoader(new URL[] {folder.toUri().toURL()})) {
                Object answers = loader.loadClass("Example").getMethod("wrongAnswers").invoke(null);
                due(answers.equals(0), answers + " calls do not answer what stands beside them");
            }
        }
        for (String file : List.of("Example.java", "Example.class", "")) {
            Files.deleteIfExists(folder.resolve(file));
        }
    }

    private static void everyCallIsTold(String text) {
        Map<String, Integer> told = new HashMap<>();
        Matcher call = TOLD.matcher(text);
        while (call.find()) {
            String parameters = call.group(2);
            told.put(call.group(1), parameters.isEmpty() ? 0 : parameters.split(", ").length);
        }
        for (Method method : InjectorTree.class.getDeclaredMethods()) {
            if (Modifier.isPublic(method.getModifiers())) {
                Integer parameters = told.remove(method.getName());
                due(parameters != null && parameters == method.getParameterCount(),
                        "does not tell of " + method);
            }
        }
        due(told.isEmpty(), "tells of calls that are not there: " + told.keySet());
    }

    private static void everyTestIsTold(String text) throws IOException {
        try (Stream<Path> files = Files.list(Path.of("src/test/java"))) {
            for (Path file : files.toList()) {
                String name = file.getFileName().toString().replace(".java", "");
                due(text.contains("- `" + name + "`:"), "does not tell of the test " + name);
            }
        }
    }
}
