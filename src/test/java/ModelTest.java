import java.lang.reflect.InvocationTargetException;
import java.lang.reflect.Method;
import java.lang.reflect.Modifier;
import java.util.ArrayList;
import java.util.Comparator;
import java.util.List;
import java.util.Random;

/** Long runs of calls, good and wrong ones, on the class and on the Model: their answers must agree. */
public final class ModelTest {
    private static final int RUNS = 1200;
    private static final int CALLS = 250;

    private static final String[] HEADS = {"h", "h", "c", "c", "n"};
    private static int wrong = 0;

    public static void main(String[] args) throws Exception {
        List<Method> methods = face();
        for (int run = 0; run < RUNS && wrong < 20; run++) {
            oneRun(run, methods);
        }
        faults();
        System.out.println(wrong == 0 ? "the class and the model agree" : wrong + " answers differ");
        if (wrong != 0) {
            System.exit(1);
        }
    }

    private static List<Method> face() {
        List<Method> methods = new ArrayList<>();
        for (Method m : HopCredits.class.getDeclaredMethods()) {
            if (Modifier.isPublic(m.getModifiers())) {
                methods.add(m);
            }
        }
        methods.sort(Comparator.comparing(Method::getName));
        return methods;
    }

    private static void oneRun(int run, List<Method> methods) throws Exception {
        Random random = new Random(run);
        HopCredits real = new HopCredits();
        Model model = new Model();
        StringBuilder told = new StringBuilder();
        int nets = 0;
        for (int call = 0; call < CALLS; call++) {
            String name = methods.get(random.nextInt(methods.size())).getName();
            if (call == 3 || (nets < 3 && random.nextInt(150) == 0)) {
                layText(real, model, random, told);
                nets++;
                continue;
            }
            int die = random.nextInt(10);
            if (die < 2) {
                name = "go";
            } else if (die == 2) {
                name = new String[] {"zone", "jam", "probe", "source", "takes"}[random.nextInt(5)];
            }
            Method m = method(methods, name);
            Object[] values = new Object[m.getParameterCount()];
            for (int i = 0; i < values.length; i++) {
                values[i] = value(name, i, values.length, random);
            }
            if (!agree(run, call, m, real, model, values, told)) {
                return;
            }
        }
    }

    private static Method method(List<Method> methods, String name) {
        for (Method m : methods) {
            if (m.getName().equals(name)) {
                return m;
            }
        }
        throw new IllegalStateException(name);
    }

    private static boolean agree(int run, int call, Method m, HopCredits real, Model model, Object[] values,
            StringBuilder told) throws Exception {
        String got = answer(m, real, values);
        String due = answer(Model.class.getMethod(m.getName(), m.getParameterTypes()), model, values);
        told.append(m.getName()).append(java.util.Arrays.toString(values)).append(" -> ").append(got).append('\n');
        if (got.equals(due)) {
            return true;
        }
        wrong++;
        System.out.println("run " + run + ", call " + call + ": due is " + due + " at the end of\n" + told);
        return false;
    }

    private static String answer(Method m, Object on, Object[] values) throws Exception {
        try {
            return String.valueOf(m.invoke(on, values));
        } catch (InvocationTargetException e) {
            return "throws." + e.getCause().getClass().getSimpleName();
        }
    }

    private static int value(String name, int place, int places, Random random) {
        if (random.nextInt(60) == 0) {
            return new int[] {Integer.MIN_VALUE, Integer.MAX_VALUE, -1, 201, 61, 31}[random.nextInt(6)];
        }
        boolean last = place == places - 1;
        switch (name) {
            case "feed": return random.nextInt(4) == 0 ? random.nextInt() : 0;
            case "end": return random.nextInt(40) - 2;
            case "go": return random.nextInt(6) == 0 ? random.nextInt(62) : 1 + random.nextInt(5);
            case "source": return place == 0 ? few(random) : place == 1 ? random.nextInt(11) : random.nextInt(60);
            case "takes": return place == 0 ? few(random) : random.nextInt(11);
            case "jam": return place == 0 ? few(random) : random.nextInt(11);
            case "zone": return place < 2 ? few(random) : random.nextInt(16);
            case "would": return place < 2 ? few(random) : place == 2 ? random.nextInt(16) : random.nextInt(202);
            case "way": return place == 0 ? few(random) : random.nextInt(7) - (place - 1);
            case "lane": return last ? random.nextInt(12) - 1 : few(random);
            case "hop": case "circuit": return last ? random.nextInt(10) - 1 : few(random);
            case "trip": return few(random);
            case "alone": return new int[] {random.nextInt(6), random.nextInt(6), random.nextInt(32),
                random.nextInt(11), random.nextInt(202)}[place];
            case "full": return last ? random.nextInt(202) : place < 2 ? random.nextInt(6) : random.nextInt(11);
            case "law": return random.nextInt(last ? 11 : 6);
            case "loss": return place == 0 ? random.nextInt(11) : random.nextInt(202);
            case "laneAhead": return place < 2 ? few(random) : place == 2 ? random.nextInt(12) - 1 : random.nextInt(202);
            case "bestZone": return last ? random.nextInt(63) : few(random);
            case "rule": case "status": case "count": return random.nextInt(9) - 1;
            case "bufferAhead": case "delivered": case "idle": case "most": case "fair": case "bears": case "waits":
            case "worst": case "busiest": return last ? random.nextInt(202) : few(random);
            default: return few(random);
        }
    }

    private static int few(Random random) {
        return random.nextInt(12) == 0 ? random.nextInt(6) - 1 : random.nextInt(3);
    }

    private static void layText(HopCredits real, Model model, Random random, StringBuilder told) {
        String text = good(random);
        told.append("net of ").append(text).append('\n');
        real.end(0);
        model.end(0);
        feed(text, real, model);
        int got = real.net();
        if (got < 1 || got != model.net()) {
            wrong++;
            System.out.println("no NET of " + text);
        }
    }

    private static void feed(String text, HopCredits real, Model model) {
        for (int from = 0; from < text.length(); from += 20) {
            int[] words = new int[5];
            for (int i = 0; i < 20; i++) {
                int sign = from + i < text.length() ? text.charAt(from + i) : 0;
                words[i / 4] |= sign << (24 - 8 * (i % 4));
            }
            real.feed(words[0], words[1], words[2], words[3], words[4]);
            model.feed(words[0], words[1], words[2], words[3], words[4]);
        }
    }

    private static String good(Random random) {
        StringBuilder text = new StringBuilder();
        if (random.nextInt(5) > 0) {
            text.append("n").append(items(random, "rap", new int[] {1, 0, 0}, new int[] {4, 20, 9}));
        }
        int hops = random.nextInt(4);
        int circuits = random.nextInt(4);
        while (hops + circuits > 0) {
            boolean hop = random.nextInt(hops + circuits) < hops;
            text.append(text.length() == 0 ? "" : ";");
            if (hop) {
                text.append("h").append(items(random, "dbe", new int[] {1, 1, 1}, new int[] {4, 30, 4}));
                hops--;
            } else {
                text.append("c").append(items(random, "gst", new int[] {0, 0, 0}, new int[] {4, 20, 4}));
                circuits--;
            }
        }
        return text.length() == 0 ? "h" : text.toString();
    }

    private static String items(Random random, String letters, int[] lows, int[] highs) {
        StringBuilder text = new StringBuilder();
        for (int i = 0; i < letters.length(); i++) {
            if (random.nextInt(3) > 0) {
                int number = lows[i] + random.nextInt(highs[i] - lows[i] + 1);
                text.append(letters.charAt(i)).append(random.nextInt(9) == 0 ? " " : "");
                text.append(number < 10 && random.nextInt(9) == 0 ? "0" : "").append(number);
            }
        }
        return text.toString();
    }

    /** Good texts with a few signs changed, so that most have one fault somewhere. */
    private static void faults() {
        Random random = new Random(77);
        String signs = "nhcrapdbegst;; 0123456789x";
        for (int i = 0; i < 60000 && wrong < 20; i++) {
            StringBuilder text = new StringBuilder(good(random));
            for (int k = random.nextInt(4); k > 0; k--) {
                int at = random.nextInt(text.length() + 1);
                char sign = signs.charAt(random.nextInt(signs.length()));
                if (random.nextBoolean() || at == text.length()) {
                    text.insert(at, sign);
                } else {
                    text.setCharAt(at, sign);
                }
            }
            HopCredits real = new HopCredits();
            Model model = new Model();
            feed(text.toString(), real, model);
            if (real.fault() != model.fault() || real.net() != model.net() || real.count(0) != model.count(0)) {
                wrong++;
                System.out.println("fault of \"" + text + "\": " + real.fault() + ", due is " + model.fault());
            }
        }
    }
}
