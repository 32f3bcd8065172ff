import java.io.IOException;
import java.lang.reflect.Executable;
import java.lang.reflect.Field;
import java.lang.reflect.Method;
import java.lang.reflect.Modifier;
import java.nio.file.Files;
import java.nio.file.Path;
import java.util.ArrayList;
import java.util.List;
import java.util.Set;
import java.util.TreeSet;
import java.util.regex.Matcher;
import java.util.regex.Pattern;

/** Rules of LANGUAGE.md that can be seen from the source and the compiled classes. */
public final class LanguageTest {
    private static final String[] WORDS = {"throw", "throws", "try", "catch", "finally", "synchronized", "assert",
        "instanceof", "package", "native", "volatile", "transient", "yield", "var"};
    private static final Set<String> LIBRARY = Set.of("Math.min", "Math.max", "Arrays.fill", "Arrays.copyOf",
        "System.arraycopy");
    private static final Set<Class<?>> CONSTANTS = Set.of(int.class, long.class, boolean.class, char.class,
        String.class);
    private static final Pattern LIBRARY_CALL = Pattern.compile("\\b(Math|Arrays|System|Integer|Long)\\.\\w+");
    /** A method or constructor begins at four or eight spaces, and its last brace stands at the same place. */
    private static final Pattern METHOD =
        Pattern.compile("( {4}| {8})(?!if |for |switch )\\w[\\w \\[\\]]*\\(.*\\) \\{");

    private final Checks c = new Checks();

    public static void main(String[] args) throws IOException {
        LanguageTest test = new LanguageTest();
        String source = Files.readString(Path.of("src/main/java/MillLine.java"));
        test.seeWords(withoutComments(source));
        test.seeLengths(source.split("\n"));
        test.seeClasses();
        test.c.end();
    }

    private static String withoutComments(String source) {
        return source.replaceAll("(?s)/\\*.*?\\*/", "").replaceAll("//[^\n]*", "");
    }

    private void seeWords(String code) {
        c.by("2, 6, 13: words that are not used");
        for (String word : WORDS) {
            c.due(word, Pattern.compile("\\b" + word + "\\b").matcher(code).find(), false);
        }
        c.due("lambda", code.contains("->"), false);
        c.due("method reference", code.contains("::"), false);
        c.by("4: only what stands there");
        Matcher imports = Pattern.compile("import [^;]*;").matcher(code);
        while (imports.find()) {
            c.due(imports.group(), imports.group().equals("import java.util.Arrays;"), true);
        }
        Matcher calls = LIBRARY_CALL.matcher(code);
        while (calls.find()) {
            c.due(calls.group(), LIBRARY.contains(calls.group()), true);
        }
        c.by("5: no static initialiser block");
        c.due("static {", code.contains("static {"), false);
        c.by("9: no loop without a bound of its own");
        c.due("while", Pattern.compile("\\bwhile\\b").matcher(code).find(), false);
        c.due("for without a test", Pattern.compile("for \\([^;]*;\\s*;").matcher(code).find(), false);
    }

    private void seeLengths(String[] lines) {
        c.by("11: methods stay short");
        int methods = 0;
        for (int i = 0; i < lines.length; i++) {
            Matcher m = METHOD.matcher(lines[i]);
            if (!m.matches()) {
                continue;
            }
            int end = i;
            while (end < lines.length && !lines[end].equals(m.group(1) + "}")) {
                end++;
            }
            methods++;
            c.due(lines[i].strip(), end - i < 60, true);
        }
        c.due("methods were found", methods > 100, true);
    }

    private void seeClasses() {
        List<Class<?>> all = new ArrayList<>(List.of(MillLine.class.getDeclaredClasses()));
        TreeSet<String> face = new TreeSet<>();
        for (Method method : MillLine.class.getMethods()) {
            face.add(method.getName());
        }
        c.by("11: at most twelve classes");
        c.due("classes", all.size() + 1 <= 12, true);
        for (Class<?> inside : all) {
            c.by("1: classes inside are private and static");
            c.due(inside.getName(), Modifier.isPrivate(inside.getModifiers())
                && Modifier.isStatic(inside.getModifiers()), true);
            c.by("1: no private method bears the name of a public one");
            for (Method method : inside.getDeclaredMethods()) {
                c.due(method.toString(), face.contains(method.getName()), false);
            }
        }
        all.add(MillLine.class);
        for (Class<?> one : all) {
            seeFields(one);
            List<Executable> bodies = new ArrayList<>(List.of(one.getDeclaredMethods()));
            bodies.addAll(List.of(one.getDeclaredConstructors()));
            c.by("11: at most seven parameters");
            for (Executable body : bodies) {
                c.due(body.toString(), body.getParameterCount() <= 7, true);
            }
        }
    }

    private void seeFields(Class<?> one) {
        int own = 0;
        c.by("5: static fields are final constants");
        for (Field field : one.getDeclaredFields()) {
            if (Modifier.isStatic(field.getModifiers())) {
                c.due(field.toString(), Modifier.isFinal(field.getModifiers())
                    && CONSTANTS.contains(field.getType()), true);
            } else {
                own++;
            }
        }
        c.by("11: at most twenty fields");
        c.due(one.getName(), own <= 20, true);
    }
}
