import java.lang.reflect.Constructor;
import java.lang.reflect.Field;
import java.lang.reflect.Method;
import java.lang.reflect.Modifier;
import java.nio.file.Files;
import java.nio.file.Path;
import java.util.ArrayList;
import java.util.Arrays;
import java.util.HashSet;
import java.util.List;
import java.util.Set;
import java.util.TreeSet;

/** The public face as the document writes it, and the rules of the language that can be seen without a compiler. */
public final class FaceTest {
    private static final String[] FACE = {
        "int feed 5", "boolean end 1", "int fault 0", "int net 0", "int rule 1", "int hop 2", "int circuit 2",
        "int lane 3", "int buffer 2", "int way 3", "int go 1", "int jam 2", "int source 3", "int takes 2",
        "int zone 3", "int probe 2", "int status 1", "int laneAhead 4", "int bufferAhead 3", "int delivered 2",
        "int heldUp 2", "int idle 2", "int most 4", "int healed 0", "int loss 2", "int fair 1", "int alone 5",
        "int full 4", "int law 3", "int aim 2", "int room 2", "int trip 2", "int oldest 1", "int learns 2",
        "boolean stuck 0", "int would 4", "int bestZone 3", "int bears 1", "int waits 3", "int worst 2",
        "int busiest 1", "int count 1"};

    private static final String[] BANNED = {"->", "::", "catch", "finally", "synchronized", "assert ", "Exact(",
        "static {", "System.out", "Random", "Thread", "hashCode", "toString", "getMessage", "double", "float"};

    private static final int MOST_PARAMETERS = 7;
    private static final int MOST_LINES = 60;

    private static int wrong = 0;

    private static void need(boolean good, String what) {
        if (!good) {
            wrong++;
            System.out.println(what);
        }
    }

    private static void face() {
        Class<?> type = HopCredits.class;
        need(Modifier.isPublic(type.getModifiers()) && Modifier.isFinal(type.getModifiers()), "public and final");
        Set<String> open = new TreeSet<>();
        for (Method m : type.getDeclaredMethods()) {
            if (Modifier.isPublic(m.getModifiers())) {
                open.add(m.getReturnType().getSimpleName() + " " + m.getName() + " " + m.getParameterCount());
            } else {
                need(Modifier.isPrivate(m.getModifiers()) || m.isSynthetic(), m.getName() + " is not private");
            }
            need(m.getParameterCount() <= MOST_PARAMETERS, m.getName() + " takes too much");
        }
        need(open.equals(new TreeSet<>(Arrays.asList(FACE))), "the face is " + open);
        for (Field f : type.getDeclaredFields()) {
            boolean constant = f.getName().equals("NONE") || f.getName().equals("HIDDEN");
            need(constant == Modifier.isPublic(f.getModifiers()), f.getName());
            need(constant || Modifier.isPrivate(f.getModifiers()), f.getName() + " is not private");
            need(!Modifier.isStatic(f.getModifiers()) || Modifier.isFinal(f.getModifiers()), f.getName());
        }
        for (Constructor<?> c : type.getDeclaredConstructors()) {
            need(Modifier.isPublic(c.getModifiers()) && c.getParameterCount() == 0, "the constructor");
        }
    }

    private static void inside() {
        Set<String> names = new HashSet<>();
        for (String line : FACE) {
            names.add(line.split(" ")[1]);
        }
        List<Class<?>> all = new ArrayList<>(Arrays.asList(HopCredits.class.getDeclaredClasses()));
        for (Class<?> type : all) {
            need(Modifier.isStatic(type.getModifiers()) && !Modifier.isPublic(type.getModifiers()), type.getName());
            for (Method m : type.getDeclaredMethods()) {
                need(!names.contains(m.getName()), m.getName() + " bears the name of a public method");
                need(m.getParameterCount() <= MOST_PARAMETERS, m.getName() + " takes too much");
            }
        }
        for (Method m : HopCredits.class.getDeclaredMethods()) {
            need(Modifier.isPublic(m.getModifiers()) || !names.contains(m.getName()), m.getName());
        }
        need(all.size() < 12, "too many classes");
    }

    private static void text() throws Exception {
        List<String> lines = Files.readAllLines(Path.of("src/main/java/HopCredits.java"));
        int since = 0;
        for (int i = 0; i < lines.size(); i++) {
            String line = lines.get(i);
            for (String word : BANNED) {
                need(!line.contains(word), "line " + (i + 1) + " has " + word);
            }
            need(!line.startsWith("import") || line.equals("import java.util.NoSuchElementException;"), line);
            boolean head = line.endsWith("{") && (line.matches(" {4}\\S.*") || line.matches(" {8}\\S.*\\) \\{"));
            since = head || line.isEmpty() ? i : since;
            need(i - since <= MOST_LINES, "a method is long at line " + (i + 1));
        }
    }

    public static void main(String[] args) throws Exception {
        face();
        inside();
        text();
        System.out.println(wrong == 0 ? "the face is as written" : wrong + " things are not as written");
        if (wrong != 0) {
            System.exit(1);
        }
    }
}
