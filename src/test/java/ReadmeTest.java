import java.io.File;
import java.io.IOException;
import java.lang.reflect.Method;
import java.lang.reflect.Modifier;
import java.nio.file.Files;
import java.nio.file.Path;
import java.util.Comparator;
import java.util.List;
import java.util.TreeSet;
import java.util.regex.Matcher;
import java.util.regex.Pattern;
import java.util.stream.Stream;
import javax.tools.ToolProvider;

/** Each call that README.md shows is made and answers as README.md says; its list of tests and its command are right. */
public final class ReadmeTest {
    private static final String NEW_OBJECT = "MillLine x = new MillLine();";
    /** A call, and behind it its answer, which may be followed by words. */
    private static final Pattern CALL =
        Pattern.compile("x\\.(\\w+)\\(((?:-?\\d+(?:, -?\\d+)*)?)\\); +// (true|false|NONE|-?\\d+)(?:: .*)?");
    private static final Pattern TEST_ROW = Pattern.compile("\\| `(\\w+Test)` \\|.*");
    private static final String COMMAND = "    bash .ci/run";
    private static final String COMPILING = "    javac -d out src/main/java/MillLine.java Program.java";
    private static final int MOST_CALLS = 512;

    private final Checks c = new Checks();
    private final TreeSet<String> shown = new TreeSet<>();
    private MillLine x;
    private int calls;

    public static void main(String[] args) throws IOException {
        ReadmeTest test = new ReadmeTest();
        List<String> lines = Files.readAllLines(Path.of("README.md"));
        test.makeCalls(lines);
        test.seeFace(String.join("\n", lines));
        test.seeTests(lines);
        test.seeCommand(lines);
        test.compileExamples(lines);
        test.c.end();
    }

    private void makeCalls(List<String> lines) {
        boolean isJava = false;
        for (String line : lines) {
            if (line.startsWith("```")) {
                isJava = line.equals("```java");
                x = null;
            } else if (isJava && line.equals(NEW_OBJECT)) {
                x = new MillLine();
                calls = 0;
            } else if (isJava) {
                makeCall(line);
            }
        }
        c.due("README.md shows calls", shown.isEmpty(), false);
    }

    private void makeCall(String line) {
        Matcher m = CALL.matcher(line);
        boolean isCall = x != null && m.matches();
        c.due("a call with its answer: " + line, isCall, true);
        if (isCall) {
            calls++;
            c.due("calls of one object", calls <= MOST_CALLS, true);
            shown.add(m.group(1));
            c.due(line, answer(m.group(1), m.group(2)).equals(m.group(3)), true);
        }
    }

    private String answer(String name, String numbers) {
        String[] parts = numbers.isEmpty() ? new String[0] : numbers.split(", ");
        Object[] given = new Object[parts.length];
        for (int i = 0; i < parts.length; i++) {
            given[i] = Integer.parseInt(parts[i]);
        }
        for (Method method : MillLine.class.getDeclaredMethods()) {
            if (method.getName().equals(name) && method.getParameterCount() == given.length) {
                return answerOf(method, given);
            }
        }
        return "no such call";
    }

    private String answerOf(Method method, Object[] given) {
        try {
            String text = String.valueOf(method.invoke(x, given));
            return text.equals("-1") ? "NONE" : text;
        } catch (ReflectiveOperationException e) {
            return e.toString();
        }
    }

    /** Each method of the face is in an example and in the list of calls. */
    private void seeFace(String text) {
        for (Method method : MillLine.class.getDeclaredMethods()) {
            String name = method.getName();
            if (Modifier.isPublic(method.getModifiers())) {
                c.due(name + " is shown", shown.contains(name), true);
                c.due(name + " is listed", text.contains("`" + name + "("), true);
            }
        }
    }

    private void seeTests(List<String> lines) {
        TreeSet<String> listed = new TreeSet<>();
        for (String line : lines) {
            Matcher m = TEST_ROW.matcher(line);
            if (m.matches()) {
                listed.add(m.group(1));
            }
        }
        TreeSet<String> there = new TreeSet<>();
        String[] names = new File("src/test/java").list();
        for (String name : names == null ? new String[0] : names) {
            if (name.endsWith("Test.java")) {
                there.add(name.substring(0, name.length() - ".java".length()));
            }
        }
        c.due("listed " + listed + ", there " + there, listed.equals(there), true);
    }

    private void seeCommand(List<String> lines) throws IOException {
        int heading = lines.indexOf("## Tests");
        int command = lines.indexOf(COMMAND);
        c.due("the command stands first under Tests", heading >= 0 && command == heading + 2, true);
        c.due(".ci/run is executable", Files.isExecutable(Path.of(".ci/run")), true);
        String script = Files.readString(Path.of(".ci/run"));
        c.due("it runs the project's tests", script.contains("src/test/java/*Test.java"), true);
        c.due("it runs the shared tests", script.contains("../shared/tests"), true);
    }

    /** The examples are Java as they stand, and README.md's command compiles a program that is made of them. */
    private void compileExamples(List<String> lines) throws IOException {
        c.due("README.md says how to compile", lines.contains(COMPILING), true);
        Path place = Files.createTempDirectory("readme");
        Path program = place.resolve("Program.java");
        Path out = place.resolve("out");
        Files.writeString(program, program(lines));
        String command = COMPILING.strip().replace("out ", out + " ").replace("Program.java", program.toString());
        String[] given = command.substring("javac ".length()).split(" ");
        c.due(command, ToolProvider.getSystemJavaCompiler().run(null, null, null, given), 0);
        c.due("Program is there", Files.isRegularFile(out.resolve("Program.class")), true);
        removeAll(place);
    }

    private static String program(List<String> lines) {
        StringBuilder text = new StringBuilder("public final class Program { public static void main(String[] args) {\n");
        boolean isJava = false;
        for (String line : lines) {
            if (line.startsWith("```")) {
                text.append(line.equals("```java") ? "{\n" : isJava ? "}\n" : "");
                isJava = line.equals("```java");
            } else if (isJava) {
                text.append(line).append('\n');
            }
        }
        return text.append("} }\n").toString();
    }

    private static void removeAll(Path place) throws IOException {
        try (Stream<Path> found = Files.walk(place)) {
            for (Path path : found.sorted(Comparator.reverseOrder()).toList()) {
                Files.delete(path);
            }
        }
    }
}
