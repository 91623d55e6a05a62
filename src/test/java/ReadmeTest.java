import java.lang.reflect.InvocationTargetException;
import java.lang.reflect.Method;
import java.lang.reflect.Modifier;
import java.nio.file.Files;
import java.nio.file.Path;
import java.util.List;
import java.util.regex.Matcher;
import java.util.regex.Pattern;
import java.util.stream.Stream;

/** What README.md says: its calls answer as written there, and it names every call of the face and every test. */
public final class ReadmeTest extends Due {
    private static final String MADE = "HopCredits net = new HopCredits();";
    private static final Pattern CALL = Pattern.compile("net\\.(\\w+)\\((.*)\\); +// (throws \\w+|-?\\w+)(:.*)?");

    private static HopCredits net = new HopCredits();

    private static int calls(List<String> lines) throws Exception {
        boolean inBlock = false;
        int calls = 0;
        for (String line : lines) {
            if (line.startsWith("```")) {
                inBlock = line.equals("```java");
            } else if (inBlock && line.equals(MADE)) {
                net = new HopCredits();
            } else if (inBlock) {
                call(line);
                calls++;
            }
        }
        return calls;
    }

    private static void call(String line) throws Exception {
        about("README.md, " + line);
        Matcher parts = CALL.matcher(line);
        if (!parts.matches()) {
            due("a call with its answer", "none", "one");
            return;
        }
        due(parts.group(1), answer(parts.group(1), parts.group(2)), parts.group(3));
    }

    private static String answer(String name, String arguments) throws Exception {
        String[] written = arguments.isEmpty() ? new String[0] : arguments.split(", ");
        Object[] values = new Object[written.length];
        for (int i = 0; i < written.length; i++) {
            values[i] = written[i].equals("HopCredits.NONE") ? HopCredits.NONE : Integer.decode(written[i]);
        }
        try {
            return String.valueOf(methodOf(name).invoke(net, values));
        } catch (InvocationTargetException e) {
            return "throws " + e.getCause().getClass().getSimpleName();
        }
    }

    private static Method methodOf(String name) {
        for (Method m : HopCredits.class.getDeclaredMethods()) {
            if (m.getName().equals(name) && Modifier.isPublic(m.getModifiers())) {
                return m;
            }
        }
        throw new IllegalStateException(name);
    }

    private static void namesEachCall(String page) {
        about("README.md names each call of the face");
        for (Method m : HopCredits.class.getDeclaredMethods()) {
            if (Modifier.isPublic(m.getModifiers())) {
                boolean named = page.contains("`" + m.getName() + "`") || page.contains("`" + m.getName() + "()`");
                due(m.getName(), named, true);
            }
        }
    }

    private static void namesEachTest(String page) throws Exception {
        about("README.md names each file under src/test/java");
        try (Stream<Path> files = Files.list(Path.of("src/test/java"))) {
            for (Path file : (Iterable<Path>) files::iterator) {
                String name = file.getFileName().toString().replace(".java", "");
                due(name, page.contains("`" + name + "`"), true);
            }
        }
        about("README.md names no test that there is not");
        Matcher named = Pattern.compile("`(\\w+Test)`").matcher(page);
        while (named.find()) {
            due(named.group(1), Files.exists(Path.of("src/test/java", named.group(1) + ".java")), true);
        }
    }

    public static void main(String[] args) throws Exception {
        List<String> lines = Files.readAllLines(Path.of("README.md"));
        String page = String.join("\n", lines);
        int calls = calls(lines);
        about("README.md shows how the class is used");
        due("calls in it", calls > 40, true);
        namesEachCall(page);
        namesEachTest(page);
        finish("README.md says what holds");
    }
}
