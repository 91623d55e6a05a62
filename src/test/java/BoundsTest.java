import java.util.ArrayList;
import java.util.Arrays;
import java.util.List;
import java.util.NoSuchElementException;

/**
 * Each argument of each call at the last value that is still within and at the first that is not; what is refused
 * changes nothing but STATUS, and what looks ahead nothing at all.
 */
public final class BoundsTest extends Due {
    private static final int THROWN = -7777777;
    private static final int UNCOUNTED = -1;

    /** The bounds of a ZONE hang on RESERVE, POOL and the others: HandEdgesTest tries them. */
    private static final int ELSEWHERE = 7777777;

    /** Three HOPS and three CIRCUITS that are all held up now and then, and all had cells DELIVERED. */
    private static final String TEXT = "np6;hd2b8e2;hd1b6;hd4b7;c;c;ct2";

    private interface Call {
        int on(HopCredits x, int[] a);
    }

    /** A call with good arguments, and between what bounds each may be. */
    private static final class Row {
        final String name;
        final int refused;
        final int[] good;
        final int[] low;
        final int[] high;
        final Call call;
        int[] counted;
        boolean byHand;
        boolean noneIsGood;

        Row(String name, int refused, int[] good, int[] low, int[] high, Call call) {
            this.name = name;
            this.refused = refused;
            this.good = good;
            this.low = low;
            this.high = high;
            this.call = call;
            this.counted = new int[good.length];
            Arrays.fill(counted, UNCOUNTED);
        }

        /** For each argument the place in STATUS that counts it, if it is out of bounds. */
        Row countedAt(int... places) {
            counted = places;
            byHand = true;
            return this;
        }

        Row noneIsGoodToo() {
            noneIsGood = true;
            return this;
        }
    }

    private static int[] of(int... numbers) {
        return numbers;
    }

    private static HopCredits fresh() {
        HopCredits x = net(TEXT, 47);
        for (int h = 0; h < 3; h++) {
            x.jam(h, 4);
        }
        return x;
    }

    private static int hopOrThrown(HopCredits x, int[] a) {
        try {
            return x.hop(a[0], a[1]);
        } catch (NoSuchElementException e) {
            return THROWN;
        }
    }

    private static int circuitOrThrown(HopCredits x, int[] a) {
        try {
            return x.circuit(a[0], a[1]);
        } catch (NoSuchElementException e) {
            return THROWN;
        }
    }

    private static List<Row> toldRows() {
        List<Row> rows = new ArrayList<>();
        rows.add(new Row("rule", HIDDEN, of(3), of(0), of(5), (x, a) -> x.rule(a[0])));
        rows.add(new Row("hop", THROWN, of(1, 1), of(0, 0), of(2, 7), BoundsTest::hopOrThrown));
        rows.add(new Row("circuit", THROWN, of(1, 1), of(0, 0), of(2, 6), BoundsTest::circuitOrThrown));
        rows.add(new Row("lane", NONE, of(1, 1, 3), of(0, 0, 0), of(2, 2, 9), (x, a) -> x.lane(a[0], a[1], a[2])));
        rows.add(new Row("buffer", NONE, of(1, 1), of(0, 0), of(3, 2), (x, a) -> x.buffer(a[0], a[1])));
        rows.add(new Row("way", NONE, of(2, 1, 0), of(0, 1, 0), of(2, 5, 4), (x, a) -> x.way(a[0], a[1], a[2]))
            .noneIsGoodToo());
        rows.add(new Row("status", NONE, of(1), of(0), of(3), (x, a) -> x.status(a[0])));
        rows.add(new Row("aim", NONE, of(1, 1), of(0, 0), of(2, 2), (x, a) -> x.aim(a[0], a[1])));
        rows.add(new Row("room", NONE, of(1, 1), of(0, 0), of(2, 2), (x, a) -> x.room(a[0], a[1])));
        rows.add(new Row("trip", NONE, of(1, 1), of(0, 0), of(2, 2), (x, a) -> x.trip(a[0], a[1])));
        rows.add(new Row("oldest", NONE, of(1), of(0), of(2), (x, a) -> x.oldest(a[0])));
        rows.add(new Row("count", HIDDEN, of(1), of(0), of(5), (x, a) -> x.count(a[0])));
        return rows;
    }

    private static List<Row> handRows() {
        List<Row> rows = new ArrayList<>();
        rows.add(new Row("go", NONE, of(7), of(1), of(60), (x, a) -> x.go(a[0])).countedAt(1));
        rows.add(new Row("jam", NONE, of(1, 3), of(0, 0), of(2, 9), (x, a) -> x.jam(a[0], a[1])).countedAt(0, 1));
        rows.add(new Row("source", NONE, of(1, 5, 6), of(0, 0, 0), of(2, 9, 999),
            (x, a) -> x.source(a[0], a[1], a[2])).countedAt(0, 1, 1));
        rows.add(new Row("takes", NONE, of(1, 3), of(0, 0), of(2, 9), (x, a) -> x.takes(a[0], a[1])).countedAt(0, 1));
        rows.add(new Row("zone", NONE, of(1, 1, 1), of(0, 0, 1), of(2, 2, ELSEWHERE), (x, a) -> x.zone(a[0], a[1], a[2]))
            .countedAt(0, 0, 1));
        rows.add(new Row("probe", NONE, of(1, 1), of(0, 0), of(2, 2), (x, a) -> x.probe(a[0], a[1])).countedAt(0, 0));
        return rows;
    }

    private static List<Row> aheadRows() {
        List<Row> rows = new ArrayList<>();
        rows.add(new Row("laneAhead", NONE, of(1, 1, 3, 50), of(0, 0, 0, 0), of(2, 2, 9, 200),
            (x, a) -> x.laneAhead(a[0], a[1], a[2], a[3])));
        rows.add(new Row("bufferAhead", NONE, of(1, 1, 50), of(0, 0, 0), of(3, 2, 200),
            (x, a) -> x.bufferAhead(a[0], a[1], a[2])));
        rows.add(new Row("delivered", NONE, of(1, 50), of(-1, 0), of(2, 200), (x, a) -> x.delivered(a[0], a[1])));
        rows.add(new Row("heldUp", NONE, of(1, 1), of(0, 0), of(2, 2), (x, a) -> x.heldUp(a[0], a[1])));
        rows.add(new Row("idle", NONE, of(1, 50), of(0, 1), of(2, 200), (x, a) -> x.idle(a[0], a[1])));
        rows.add(new Row("most", NONE, of(1, 1, 0, 50), of(0, 0, 0, 0), of(3, 2, 3, 200), BoundsTest::mostOf));
        rows.add(new Row("most", NONE, of(1, 1, 1, 50), of(0, 0, 0, 0), of(3, 2, 3, 200), BoundsTest::mostOf));
        rows.add(new Row("most", NONE, of(1, 1, 2, 50), of(1, 0, 0, 0), of(3, 2, 3, 200), BoundsTest::mostOf));
        rows.add(new Row("most", NONE, of(1, 1, 3, 50), of(1, 0, 0, 0), of(3, 2, 3, 200), BoundsTest::mostOf));
        rows.add(new Row("loss", HIDDEN, of(2, 50), of(1, 1), of(9, 200), (x, a) -> x.loss(a[0], a[1])));
        rows.add(new Row("fair", NONE, of(50), of(1), of(200), (x, a) -> x.fair(a[0])));
        rows.add(new Row("learns", NONE, of(1, 1), of(0, 0), of(2, 2), (x, a) -> x.learns(a[0], a[1])));
        rows.add(new Row("would", NONE, of(1, 1, 1, 50), of(0, 0, 1, 0), of(2, 2, ELSEWHERE, 200),
            (x, a) -> x.would(a[0], a[1], a[2], a[3])));
        rows.add(new Row("bestZone", NONE, of(1, 1, 20), of(0, 0, 1), of(2, 2, 60),
            (x, a) -> x.bestZone(a[0], a[1], a[2])));
        rows.add(new Row("bears", NONE, of(50), of(1), of(200), (x, a) -> x.bears(a[0])));
        rows.add(new Row("waits", NONE, of(1, 1, 50), of(0, 0, 1), of(2, 2, 200),
            (x, a) -> x.waits(a[0], a[1], a[2])));
        rows.add(new Row("worst", NONE, of(1, 50), of(0, 1), of(2, 200), (x, a) -> x.worst(a[0], a[1])));
        rows.add(new Row("busiest", NONE, of(50), of(1), of(200), (x, a) -> x.busiest(a[0])));
        return rows;
    }

    private static int mostOf(HopCredits x, int[] a) {
        return x.most(a[0], a[1], a[2], a[3]);
    }

    private static List<Row> lawRows() {
        List<Row> rows = new ArrayList<>();
        rows.add(new Row("alone", NONE, of(2, 2, 9, 2, 50), of(1, 1, 1, 1, 1), of(4, 4, 30, 9, 200),
            (x, a) -> x.alone(a[0], a[1], a[2], a[3], a[4])));
        rows.add(new Row("full", NONE, of(2, 2, 2, 50), of(1, 1, 1, 1), of(4, 4, 9, 200),
            (x, a) -> x.full(a[0], a[1], a[2], a[3])));
        rows.add(new Row("law", NONE, of(2, 2, 2), of(1, 1, 1), of(4, 4, 9), (x, a) -> x.law(a[0], a[1], a[2])));
        return rows;
    }

    // ---- what is tried

    private static void within(Row row, int[] arguments, String toldBefore) {
        HopCredits x = fresh();
        String call = row.name + Arrays.toString(arguments);
        int answer = row.call.on(x, arguments);
        if (!row.noneIsGood) {
            due(call + " is refused", answer == row.refused, false);
        }
        statusOf(x, 0, 0, 0, 0);
        if (!row.byHand) {
            due("what is told behind " + call, told(x), toldBefore);
        }
    }

    private static void beyond(Row row, int[] arguments, int place, String toldBefore) {
        HopCredits x = fresh();
        String call = row.name + Arrays.toString(arguments);
        due(call, row.call.on(x, arguments), row.refused);
        statusOf(x, place == 0 ? 1 : 0, place == 1 ? 1 : 0, place == 2 ? 1 : 0, place == 3 ? 1 : 0);
        due("what is told behind " + call, told(x), toldBefore);
    }

    private static void bounds(List<Row> rows) {
        String toldBefore = told(fresh());
        for (Row row : rows) {
            about("bounds of " + row.name + "()");
            within(row, row.good, toldBefore);
            for (int i = 0; i < row.good.length; i++) {
                if (row.high[i] != ELSEWHERE) {
                    boundsOf(row, i, toldBefore);
                }
            }
        }
    }

    private static void boundsOf(Row row, int i, String toldBefore) {
        for (int value : of(row.low[i], row.high[i])) {
            within(row, with(row.good, i, value), toldBefore);
        }
        for (int value : of(row.low[i] - 1, row.high[i] + 1, LEAST, LARGEST)) {
            beyond(row, with(row.good, i, value), row.counted[i], toldBefore);
        }
    }

    private static int[] with(int[] numbers, int place, int value) {
        int[] others = numbers.clone();
        others[place] = value;
        return others;
    }

    /** There are three at most, but no more than the NET has. */
    private static void fewerHopsAndCircuits(List<Row> rows) {
        for (Row row : rows) {
            about(row.name + "() on a NET of one HOP, CIRCUIT");
            HopCredits x = net("h", 9);
            for (int i = 0; i < row.good.length; i++) {
                if (isHopOrCircuit(row, i)) {
                    due("of a second one", row.call.on(x, with(zeroOnes(row), i, 1)), row.refused);
                }
            }
        }
    }

    private static boolean isHopOrCircuit(Row row, int i) {
        boolean whatOfTrip = row.name.equals("trip") && i == 1;
        return row.high[i] == 2 && row.low[i] <= 0 && !whatOfTrip;
    }

    private static int[] zeroOnes(Row row) {
        int[] arguments = row.good.clone();
        for (int i = 0; i < arguments.length; i++) {
            if (isHopOrCircuit(row, i)) {
                arguments[i] = 0;
            }
        }
        return arguments;
    }

    private static void withoutNet(List<Row> rows) {
        about("no NET");
        for (Row row : rows) {
            boolean asEver = row.name.equals("status");
            HopCredits x = new HopCredits();
            due(row.name, row.call.on(x, row.good), asEver ? 0 : row.refused);
            statusOf(x, row.byHand ? 1 : 0, 0, 0, 0);
            int[] wrong = row.good.clone();
            Arrays.fill(wrong, LARGEST);
            due(row.name, row.call.on(x, wrong), row.refused);
            statusOf(x, row.byHand ? 2 : 0, 0, 0, 0);
        }
        HopCredits x = new HopCredits();
        due("healed()", x.healed(), NONE);
        due("stuck()", x.stuck(), false);
        due("count(0)", x.count(0), 0);
        due("delivered(NONE, 0)", x.delivered(NONE, 0), NONE);
        due("alone()", x.alone(1, 1, 1, 1, 1), 1);
        due("full()", x.full(1, 1, 1, 1), 1);
        due("law()", x.law(1, 1, 1), 2);
        statusOf(x, 0, 0, 0, 0);
    }

    private static void withoutArguments() {
        about("Apart, from as it is now");
        HopCredits x = fresh();
        x.healed();
        x.stuck();
        x.fault();
        due("net of an empty TAPE", x.net(), NONE);
        due("what is told", told(x), told(fresh()));
        statusOf(x, 0, 0, 0, 0);
    }

    public static void main(String[] args) {
        List<Row> ofNet = new ArrayList<>(toldRows());
        ofNet.addAll(handRows());
        ofNet.addAll(aheadRows());
        bounds(ofNet);
        bounds(lawRows());
        fewerHopsAndCircuits(ofNet);
        withoutNet(ofNet);
        withoutArguments();
        finish("the bounds of all arguments hold");
    }
}
