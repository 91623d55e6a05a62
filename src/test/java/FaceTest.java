import java.lang.reflect.Constructor;
import java.lang.reflect.Executable;
import java.lang.reflect.Field;
import java.lang.reflect.Method;
import java.lang.reflect.Modifier;
import java.nio.file.Files;
import java.nio.file.Path;
import java.util.ArrayList;
import java.util.HashSet;
import java.util.List;
import java.util.Set;
import java.util.TreeSet;

/** The public face as the document writes it, and the rules of the language that can be seen without a compiler. */
public final class FaceTest {
    private static final Path DOCUMENT = Path.of("../shared/DOC.md");
    private static final Path PROGRAM = Path.of("src/main/java/HopCredits.java");

    private static final String[] BANNED = {"->", "::", "catch", "finally", "synchronized", "assert ", "Exact(",
        "static {", "System.out", "Random", "Thread", "hashCode", "toString", "getMessage", "double", "float"};

    private static final int CONSTANTS = 2;
    private static final int METHODS = 42;
    private static final int MOST_PARAMETERS = 7;
    private static final int MOST_LINES = 60;
    private static final int MOST_CLASSES = 12;
    private static final int MOST_FIELDS = 20;

    private static int wrong = 0;

    private static void need(boolean good, String what) {
        if (!good) {
            wrong++;
            System.out.println(what);
        }
    }

    // ---- the face

    /** The lines of the document's first piece of Java: a constant, the constructor or a method each. */
    private static List<String> faceOfDocument() throws Exception {
        List<String> face = new ArrayList<>();
        boolean inside = false;
        for (String line : Files.readAllLines(DOCUMENT)) {
            if (line.startsWith("```") && inside) {
                break;
            }
            inside = inside || line.equals("```java");
            if (inside && line.startsWith("    public ")) {
                face.add(line);
            }
        }
        return face;
    }

    private static Set<String> faceOfClass() throws Exception {
        Class<?> type = HopCredits.class;
        Set<String> face = new TreeSet<>();
        for (Field f : type.getDeclaredFields()) {
            if (!Modifier.isPrivate(f.getModifiers())) {
                face.add(Modifier.toString(f.getModifiers()) + " " + f.getType().getName() + " " + f.getName() + " = "
                        + f.getInt(null) + ";");
            }
        }
        for (Constructor<?> c : type.getDeclaredConstructors()) {
            face.add(wordsOf(c, "HopCredits"));
        }
        for (Method m : type.getDeclaredMethods()) {
            if (!Modifier.isPrivate(m.getModifiers()) && !m.isSynthetic()) {
                face.add(wordsOf(m, m.getReturnType().getName() + " " + m.getName()));
            }
        }
        return face;
    }

    private static String wordsOf(Executable e, String name) {
        List<String> types = new ArrayList<>();
        for (Class<?> type : e.getParameterTypes()) {
            types.add(type.getName());
        }
        String thrown = "";
        for (Class<?> type : e.getExceptionTypes()) {
            thrown += " throws " + type.getSimpleName();
        }
        return Modifier.toString(e.getModifiers()) + " " + name + "(" + String.join(", ", types) + ")" + thrown + ";";
    }

    private static void face() throws Exception {
        List<String> lines = faceOfDocument();
        need(lines.size() == CONSTANTS + 1 + METHODS, "the document has " + lines.size() + " lines of the face");
        List<String> program = Files.readAllLines(PROGRAM);
        Set<String> due = new TreeSet<>();
        for (String line : lines) {
            need(program.contains(line) || program.contains(line.replace(";", " {")), "no such line:" + line);
            due.add(line.strip().replaceAll("int \\w+(?=[,)])", "int"));
        }
        need(Modifier.toString(HopCredits.class.getModifiers()).equals("public final"), "public and final");
        need(faceOfClass().equals(due), "the face is " + faceOfClass() + ", due is " + due);
    }

    // ---- the rules of the language

    private static void inside() {
        Set<String> names = new HashSet<>();
        for (Method m : HopCredits.class.getDeclaredMethods()) {
            if (Modifier.isPublic(m.getModifiers())) {
                names.add(m.getName());
            }
        }
        Class<?>[] within = HopCredits.class.getDeclaredClasses();
        need(within.length < MOST_CLASSES, "too many classes");
        look(HopCredits.class, names);
        for (Class<?> type : within) {
            need(Modifier.isStatic(type.getModifiers()) && !Modifier.isPublic(type.getModifiers()), type.getName());
            look(type, names);
        }
    }

    private static void look(Class<?> type, Set<String> names) {
        int kept = 0;
        for (Method m : type.getDeclaredMethods()) {
            boolean open = type == HopCredits.class && Modifier.isPublic(m.getModifiers());
            need(open || !names.contains(m.getName()), m.getName() + " bears the name of a public method");
            need(m.getParameterCount() <= MOST_PARAMETERS, m.getName() + " takes too much");
        }
        for (Field f : type.getDeclaredFields()) {
            boolean fixed = Modifier.isStatic(f.getModifiers());
            need(!fixed || Modifier.isFinal(f.getModifiers()), f.getName() + " is static, not final");
            kept += fixed ? 0 : 1;
        }
        need(kept <= MOST_FIELDS, type.getName() + " has too many fields");
    }

    private static void text() throws Exception {
        List<String> lines = Files.readAllLines(PROGRAM);
        int since = 0;
        for (int i = 0; i < lines.size(); i++) {
            String line = lines.get(i);
            for (String word : BANNED) {
                need(!line.contains(word), "line " + (i + 1) + " has " + word);
            }
            need(!line.startsWith("import") || line.equals("import java.util.NoSuchElementException;"), line);
            boolean head = line.endsWith("{") && (line.matches(" {4}\\S.*") || line.matches(" {8}\\S.*\\) \\{"));
            since = head || line.isEmpty() ? i : since;
            need(i - since <= MOST_LINES, "a method is long at line " + (i + 1));
        }
    }

    public static void main(String[] args) throws Exception {
        face();
        inside();
        text();
        System.out.println(wrong == 0 ? "the face is as written" : wrong + " things are not as written");
        if (wrong != 0) {
            System.exit(1);
        }
    }
}
