import java.util.NoSuchElementException;

/** What the tests with answers by hand share: objects made of a TEXT, and a count of the answers that are not due. */
abstract class Due {
    static final int NONE = -1;
    static final int HIDDEN = -1000000;
    static final int LEAST = Integer.MIN_VALUE;
    static final int LARGEST = Integer.MAX_VALUE;

    private static final int GO_AT_MOST = 60;

    private static int wrong = 0;
    private static String words = "";

    /** The words of the document that the checks to come are about. */
    static void about(String sentence) {
        words = sentence;
    }

    static void due(String call, long got, long want) {
        if (got != want) {
            tellWrong(call + " answered " + got + ", due is " + want);
        }
    }

    static void due(String call, boolean got, boolean want) {
        if (got != want) {
            tellWrong(call + " answered " + got + ", due is " + want);
        }
    }

    static void due(String call, String got, String want) {
        if (!got.equals(want)) {
            tellWrong(call + " answered " + got + ", due is " + want);
        }
    }

    private static void tellWrong(String what) {
        wrong++;
        System.out.println(words + ": " + what);
    }

    static void finish(String good) {
        System.out.println(wrong == 0 ? good : wrong + " answers are not as due");
        if (wrong != 0) {
            System.exit(1);
        }
    }

    // ---- objects

    static HopCredits tape(String text) {
        HopCredits x = new HopCredits();
        feed(x, text);
        return x;
    }

    static int feed(HopCredits x, String text) {
        int answer = x.count(0);
        for (int from = 0; from < text.length(); from += 20) {
            int[] numbers = new int[5];
            for (int i = from; i < Math.min(from + 20, text.length()); i++) {
                numbers[(i - from) / 4] |= text.charAt(i) << (24 - 8 * ((i - from) % 4));
            }
            answer = x.feed(numbers[0], numbers[1], numbers[2], numbers[3], numbers[4]);
        }
        return answer;
    }

    static HopCredits net(String text) {
        HopCredits x = tape(text);
        if (x.net() < 1) {
            tellWrong("no NET of " + text);
        }
        return x;
    }

    static HopCredits net(String text, int ticks) {
        HopCredits x = net(text);
        go(x, ticks);
        return x;
    }

    /** More TICKS than one go() takes, or none. */
    static void go(HopCredits x, int ticks) {
        for (int left = ticks; left > 0; left -= GO_AT_MOST) {
            x.go(Math.min(left, GO_AT_MOST));
        }
    }

    // ---- answers

    static boolean hopThrows(HopCredits x, int hop, int what) {
        try {
            x.hop(hop, what);
            return false;
        } catch (NoSuchElementException e) {
            return true;
        }
    }

    static boolean circuitThrows(HopCredits x, int circuit, int what) {
        try {
            x.circuit(circuit, what);
            return false;
        } catch (NoSuchElementException e) {
            return true;
        }
    }

    static void faultOf(String text, int want) {
        due("fault() of \"" + text + "\"", tape(text).fault(), want);
    }

    static void statusOf(HopCredits x, int a, int b, int c, int d) {
        due("status(0)", x.status(0), a);
        due("status(1)", x.status(1), b);
        due("status(2)", x.status(2), c);
        due("status(3)", x.status(3), d);
    }

    /** All that is told of it as it is now, but STATUS: some 260 calls. */
    static String told(HopCredits x) {
        StringBuilder all = new StringBuilder();
        for (int what = 0; what < 6; what++) {
            all.append(x.rule(what)).append(' ').append(x.count(what)).append(' ');
        }
        int hops = x.rule(0);
        int circuits = x.rule(1);
        for (int h = 0; h < hops; h++) {
            toldOfHop(x, h, circuits, all);
        }
        for (int c = 0; c < circuits; c++) {
            toldOfCircuit(x, c, hops, all);
        }
        return all.append(x.fault()).toString();
    }

    private static void toldOfHop(HopCredits x, int h, int circuits, StringBuilder all) {
        all.append("\nHOP ").append(h).append(':');
        for (int what = 0; what < 8; what++) {
            all.append(' ').append(x.hop(h, what));
        }
        for (int ticks = 1; ticks <= 5; ticks++) {
            for (int what = 0; what <= 4; what++) {
                all.append(' ').append(x.way(h, ticks, what));
            }
        }
        for (int c = 0; c < circuits; c++) {
            all.append(" /");
            for (int what = 0; what < 10; what++) {
                all.append(' ').append(x.lane(h, c, what));
            }
        }
    }

    private static void toldOfCircuit(HopCredits x, int c, int hops, StringBuilder all) {
        all.append("\nCIRCUIT ").append(c).append(':');
        for (int what = 0; what < 7; what++) {
            all.append(' ').append(x.circuit(c, what));
        }
        for (int node = 0; node <= hops; node++) {
            all.append(' ').append(x.buffer(node, c));
        }
        for (int what = 0; what < 3; what++) {
            all.append(' ').append(x.trip(c, what));
        }
        all.append(' ').append(x.oldest(c)).append('\n');
    }
}
