import java.io.IOException;
import java.io.UncheckedIOException;
import java.lang.reflect.InvocationTargetException;
import java.lang.reflect.Method;
import java.lang.reflect.Modifier;
import java.net.URL;
import java.net.URLClassLoader;
import java.nio.file.Files;
import java.nio.file.Path;
import java.util.ArrayList;
import java.util.List;
import java.util.Set;
import java.util.TreeSet;
import java.util.regex.Matcher;
import java.util.regex.Pattern;
import javax.tools.JavaCompiler;
import javax.tools.ToolProvider;

/**
 * What README.md shows of the use of the class: its examples compile and answer as it says, and instructions
 * take and push as many operands as its table says.
 */
public final class ReadmeTest {
    private static final Pattern NEW = Pattern.compile("StrandRuntime x = new StrandRuntime\\(\\);");
    private static final Pattern CALL = Pattern.compile("(x\\.(\\w+)\\(.*\\));\\s+// (.*)");
    private static final Pattern ANSWER = Pattern.compile("(-?\\d+)(?=[,: ]|$).*");
    private static final Pattern THROWN = Pattern.compile("throws (\\w+).*");
    private static final Pattern ROW = Pattern.compile("\\| (\\d+) \\|(.*)\\|(.*)\\|(.*)\\|");
    private static final int CALLS = 18;
    private static final int SPAWNS = 20;
    private static final int SELECTS = 31;

    private ReadmeTest() {
    }

    public static void main(String[] args) throws IOException {
        List<String> lines = Files.readAllLines(Path.of("README.md"));
        List<String> examples = examplesIn(lines);
        Due.is("examples in README.md", examples.size(), 6);
        showEveryCall(lines);
        for (int i = 0; i < examples.size(); i++) {
            answersAsTold("ReadmeUse" + i, examples.get(i));
        }
        tellsOfEachInstruction(lines);
        Due.end("ReadmeTest");
    }

    /** The body of a method for each block of Java: it adds what is not as told to a list of faults. */
    private static List<String> examplesIn(List<String> lines) {
        List<String> examples = new ArrayList<>();
        StringBuilder body = null;
        for (int i = 0; i < lines.size(); i++) {
            String line = lines.get(i).trim();
            if (line.equals("```java")) {
                body = new StringBuilder();
            } else if (body != null && line.equals("```")) {
                examples.add(body.toString());
                body = null;
            } else if (body != null) {
                body.append(checked(i + 1, line)).append('\n');
            }
        }
        return examples;
    }

    private static String checked(int at, String line) {
        Matcher call = CALL.matcher(line);
        if (NEW.matcher(line).matches()) {
            return line;
        }
        boolean isCall = call.matches();
        Due.is("README.md, line " + at + " is a call with a comment: " + line, isCall ? 1 : 0, 1);
        if (!isCall) {
            return "";
        }
        String what = "\"line " + at + ": " + call.group(1) + "\"";
        Matcher answer = ANSWER.matcher(call.group(3));
        Matcher thrown = THROWN.matcher(call.group(3));
        if (answer.matches()) {
            return "if (" + call.group(1) + " != " + answer.group(1) + "L) { faults.add(" + what + "); }";
        }
        if (thrown.matches()) {
            return "try { " + call.group(1) + "; faults.add(" + what + "); } catch (" + thrown.group(1) + " e) { }";
        }
        Due.sameText("README.md, line " + at + ", the call without an answer", call.group(2), "begin");
        return call.group(1) + ";";
    }

    private static void showEveryCall(List<String> lines) {
        Set<String> shown = new TreeSet<>();
        for (String line : lines) {
            Matcher call = CALL.matcher(line.trim());
            if (call.matches()) {
                shown.add(call.group(2));
            }
        }
        Set<String> face = new TreeSet<>();
        for (Method m : StrandRuntime.class.getDeclaredMethods()) {
            if (Modifier.isPublic(m.getModifiers())) {
                face.add(m.getName());
            }
        }
        Due.sameText("the calls that README.md shows", shown.toString(), face.toString());
    }

    private static void answersAsTold(String name, String body) throws IOException {
        Path directory = Files.createTempDirectory("readme");
        Path source = directory.resolve(name + ".java");
        Path compiled = directory.resolve(name + ".class");
        try {
            Files.writeString(source, "public final class " + name + " {\n"
                + "public static java.util.List<String> use() {\n"
                + "java.util.List<String> faults = new java.util.ArrayList<>();\n"
                + body + "return faults;\n}\n}\n");
            JavaCompiler compiler = ToolProvider.getSystemJavaCompiler();
            int code = compiler.run(null, System.out, System.out,
                "-cp", System.getProperty("java.class.path"), "-d", directory.toString(), source.toString());
            Due.is("README.md compiles: " + name, code, 0);
            Due.sameText("README.md answers otherwise, " + name, code == 0 ? faultsOf(directory, name) : "[]", "[]");
        } finally {
            Files.deleteIfExists(source);
            Files.deleteIfExists(compiled);
            Files.deleteIfExists(directory);
        }
    }

    private static String faultsOf(Path directory, String name) {
        try (URLClassLoader loader = new URLClassLoader(new URL[] {directory.toUri().toURL()})) {
            return loader.loadClass(name).getMethod("use").invoke(null).toString();
        } catch (IOException e) {
            throw new UncheckedIOException(e);
        } catch (InvocationTargetException e) {
            return String.valueOf(e.getCause());
        } catch (ReflectiveOperationException e) {
            return e.toString();
        }
    }

    private static void tellsOfEachInstruction(List<String> lines) {
        int op = 0;
        for (String line : lines) {
            Matcher row = ROW.matcher(line);
            if (row.matches()) {
                Due.is("the next instruction in the table", Integer.parseInt(row.group(1)), op);
                takesAndPushes(op, partsOf(row.group(2)), partsOf(row.group(3)));
                op++;
            }
        }
        Due.is("instructions in the table", op, 37);
    }

    private static int partsOf(String list) {
        return list.isBlank() ? 0 : list.split(",").length;
    }

    /** With an operand too few there is a panic -3, and so where what is pushed would be too many. */
    private static void takesAndPushes(int op, int takes, int pushes) {
        boolean hasArguments = op == CALLS || op == SPAWNS;
        int taken = hasArguments ? 0 : takes;
        Due.is("-3 of " + op + " with what it takes", isTooMany(op, taken) ? 1 : 0, 0);
        if (taken > 0) {
            Due.is("-3 of " + op + " with one too few", isTooMany(op, taken - 1) ? 1 : 0, 1);
        }
        int most = 16 + taken - pushes;
        Due.is("-3 of " + op + " when it is full behind it", isTooMany(op, Math.min(16, most)) ? 1 : 0, 0);
        if (most < 16) {
            Due.is("-3 of " + op + " with one too many", isTooMany(op, most + 1) ? 1 : 0, 1);
        }
    }

    /** Whether an instruction behind so many pushes panics with -3. */
    private static boolean isTooMany(int op, int operands) {
        StrandRuntime x = new StrandRuntime();
        x.function(0, 1);
        for (int i = 0; i < operands; i++) {
            x.code(1, 0);
        }
        boolean jumps = op == 16 || op == 17;
        int a = jumps ? operands + 1 : op == SELECTS || op == CALLS || op == SPAWNS ? 1 : op == 34 ? 2 : 0;
        x.code(op, a);
        x.code(16, operands + 1);
        x.function(0, 0);
        x.code(16, 0);
        x.function(1, 1);
        x.code(16, 0);
        x.begin(0);
        x.run(operands + 1);
        return x.state() == 3 && x.strand(0, 6) == -3;
    }
}
