import java.io.IOException;
import java.lang.reflect.Method;
import java.lang.reflect.Modifier;
import java.net.URL;
import java.net.URLClassLoader;
import java.nio.file.Files;
import java.nio.file.Path;
import java.util.ArrayList;
import java.util.List;
import java.util.Set;
import java.util.TreeSet;
import java.util.function.Consumer;
import java.util.regex.Matcher;
import java.util.regex.Pattern;
import javax.tools.ToolProvider;

/** README.md, which must be in the working directory: its examples are compiled, and answer what stands behind each call. */
public final class ReadmeTest extends Checks {
    private static final Pattern NEW_OBJECT = Pattern.compile("StateCoder x = new StateCoder\\(\\);");
    private static final Pattern CALL = Pattern.compile("(x\\.(\\w+)\\([^;]*\\));(?: +// (.+))?");
    private static final Pattern ANSWER = Pattern.compile("(true|false|-?[0-9]+)(?::.*)?");
    private static final Pattern ROW_OF_CALL = Pattern.compile("\\| `(\\w+)\\(([^)]*)\\)` \\|.*");

    private final List<String> readme;
    private final StringBuilder program = new StringBuilder();
    private final Set<String> called = new TreeSet<>();
    private final List<String> answers = new ArrayList<>();
    private final List<String> lines = new ArrayList<>();

    private ReadmeTest(List<String> readme) {
        this.readme = readme;
    }

    public static void main(String[] args) throws Exception {
        sentence("README.md");
        ReadmeTest test = new ReadmeTest(Files.readAllLines(Path.of("README.md")));
        test.tableHasEachCall();
        test.takeExamples();
        due("calls that some example makes " + test.called, test.called.equals(names()), true);
        if (noneWrong()) {
            test.runExamples();
        }
        end();
    }

    private static Set<String> names() {
        Set<String> names = new TreeSet<>();
        for (Method m : StateCoder.class.getDeclaredMethods()) {
            if (Modifier.isPublic(m.getModifiers())) {
                names.add(m.getName());
            }
        }
        return names;
    }

    private void tableHasEachCall() {
        Set<String> told = new TreeSet<>();
        for (String line : readme) {
            Matcher row = ROW_OF_CALL.matcher(line);
            if (row.matches()) {
                told.add(row.group(1));
                int parameters = row.group(2).isEmpty() ? 0 : row.group(2).split(",").length;
                due("parameters of " + row.group(1), parameters, method(row.group(1)).getParameterCount());
            }
        }
        due("calls in the table " + told, told.equals(names()), true);
    }

    private static Method method(String name) {
        for (Method m : StateCoder.class.getDeclaredMethods()) {
            if (m.getName().equals(name) && Modifier.isPublic(m.getModifiers())) {
                return m;
            }
        }
        throw new IllegalStateException("README.md names a call that is none: " + name);
    }

    /** Each example is a block of a program of its own, with the same name for its object. */
    private void takeExamples() {
        boolean inside = false;
        for (String line : readme) {
            if (line.startsWith("```")) {
                program.append(line.equals("```java") ? "{\n" : inside ? "}\n" : "");
                inside = line.equals("```java");
            } else if (inside) {
                takeLine(line);
            }
        }
        due("examples are there", lines.size() > 0, true);
    }

    private void takeLine(String line) {
        Matcher call = CALL.matcher(line);
        if (NEW_OBJECT.matcher(line).matches()) {
            program.append(line).append('\n');
        } else if (!call.matches()) {
            due("a line that is no call: " + line, false, true);
        } else {
            takeCall(line, call.group(1), method(call.group(2)), call.group(3) == null ? "" : call.group(3));
        }
    }

    private void takeCall(String line, String call, Method method, String behind) {
        called.add(method.getName());
        Matcher answer = ANSWER.matcher(behind);
        boolean hasAnswer = method.getReturnType() != void.class;
        due("an answer stands behind: " + line, answer.matches(), hasAnswer);
        if (hasAnswer && answer.matches()) {
            program.append("told.accept(").append(call).append(");\n");
            lines.add(line);
            answers.add(answer.group(1));
        } else {
            program.append(call).append(";\n");
        }
    }

    private void runExamples() throws Exception {
        Path place = Files.createTempDirectory("readme");
        try {
            Path source = place.resolve("Examples.java");
            Files.writeString(source, "public final class Examples {\n"
                + "public static void run(java.util.function.Consumer<Object> told) {\n" + program + "}\n}\n");
            int compiled = ToolProvider.getSystemJavaCompiler().run(null, null, null,
                "-cp", System.getProperty("java.class.path"), "-d", place.toString(), source.toString());
            due("the compiler's answer to the examples", compiled, 0);
            if (compiled == 0) {
                runCompiled(place);
            }
        } finally {
            delete(place);
        }
    }

    private void runCompiled(Path place) throws Exception {
        List<String> got = new ArrayList<>();
        Consumer<Object> told = answer -> got.add("" + answer);
        try (URLClassLoader loader = new URLClassLoader(new URL[] {place.toUri().toURL()})) {
            loader.loadClass("Examples").getMethod("run", Consumer.class).invoke(null, told);
        }
        due("answers", got.size(), answers.size());
        for (int i = 0; i < answers.size() && i < got.size(); i++) {
            due(lines.get(i) + " (it answered " + got.get(i) + ")", got.get(i).equals(answers.get(i)), true);
        }
    }

    private static void delete(Path place) throws IOException {
        for (String name : new String[] {"Examples.class", "Examples.java", ""}) {
            Files.deleteIfExists(place.resolve(name));
        }
    }
}
