import java.io.IOException;
import java.lang.reflect.Method;
import java.lang.reflect.Modifier;
import java.nio.file.DirectoryStream;
import java.nio.file.Files;
import java.nio.file.Path;
import java.util.Set;
import java.util.TreeSet;
import java.util.regex.Matcher;
import java.util.regex.Pattern;

/** The lines of README.md that call the class and say what it answers are run; every call of the face is among them. */
public final class ReadmeTest {
    private static final Pattern CALL = Pattern.compile("x\\.(\\w+)\\(([^)]*)\\);\\s*// (-?\\d+).*");
    private static final Pattern SAID = Pattern.compile("say\\(x, \"([^\"]*)\"\\);\\s*// (-?\\d+).*");
    private static final String MADE = "SueOrSettle x = new SueOrSettle();";

    private static SueOrSettle x = null;
    private static int wrong = 0;
    private static final Set<String> called = new TreeSet<>();

    private static void due(String line, long got, String want) {
        if (got != Long.parseLong(want)) {
            wrong++;
            System.out.println("README.md: " + line + " but it answered " + got);
        }
    }

    private static Method faceMethod(String name) {
        for (Method method : SueOrSettle.class.getDeclaredMethods()) {
            if (Modifier.isPublic(method.getModifiers()) && method.getName().equals(name)) {
                return method;
            }
        }
        return null;
    }

    private static long answer(String name, String told) throws ReflectiveOperationException {
        Method method = faceMethod(name);
        if (method == null) {
            throw new NoSuchMethodException(name);
        }
        called.add(name);
        String[] texts = told.isEmpty() ? new String[0] : told.split(", ");
        Object[] arguments = new Object[texts.length];
        for (int i = 0; i < texts.length; i++) {
            long v = Long.decode(texts[i]);
            arguments[i] = method.getParameterTypes()[i] == long.class ? (Object) v : (Object) (int) v;
        }
        return ((Number) method.invoke(x, arguments)).longValue();
    }

    private static int say(String text) {
        for (char c : text.toCharArray()) {
            x.feed(1, c);
        }
        return x.quarrel();
    }

    private static void runLine(String line) throws ReflectiveOperationException {
        Matcher call = CALL.matcher(line);
        Matcher said = SAID.matcher(line);
        if (line.equals(MADE)) {
            x = new SueOrSettle();
        } else if (said.matches()) {
            called.add("quarrel");
            due(line, say(said.group(1)), said.group(2));
        } else if (call.matches()) {
            due(line, answer(call.group(1), call.group(2)), call.group(3));
        } else if (line.startsWith("x.") || line.startsWith("say(")) {
            wrong++;
            System.out.println("README.md: " + line + " says no answer");
        }
    }

    private static void namesTests(String project) throws IOException {
        String readme = Files.readString(Path.of(project, "README.md"));
        try (DirectoryStream<Path> tests = Files.newDirectoryStream(Path.of(project, "src", "test", "java"), "*.java")) {
            for (Path test : tests) {
                String name = test.getFileName().toString().replace(".java", "");
                if (!readme.contains("`" + name + "`")) {
                    wrong++;
                    System.out.println("README.md does not name " + name);
                }
            }
        }
    }

    public static void main(String[] args) throws Exception {
        String project = args.length > 0 ? args[0] : ".";
        for (String line : Files.readAllLines(Path.of(project, "README.md"))) {
            runLine(line);
        }
        for (Method method : SueOrSettle.class.getDeclaredMethods()) {
            if (Modifier.isPublic(method.getModifiers()) && !called.contains(method.getName())) {
                wrong++;
                System.out.println("README.md does not call " + method.getName());
            }
        }
        namesTests(project);
        System.out.println(called.size() + " calls of the face in README.md, " + wrong + " wrong");
        if (wrong != 0) {
            System.exit(1);
        }
    }
}
