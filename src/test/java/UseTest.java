import java.lang.management.ManagementFactory;
import java.lang.reflect.Array;
import java.lang.reflect.Field;
import java.lang.reflect.Modifier;
import java.util.ArrayDeque;
import java.util.Collections;
import java.util.Deque;
import java.util.IdentityHashMap;
import java.util.Set;

/** An object that is used for all its 512 calls, and the room that objects and calls need. */
public final class UseTest extends Due {
    private static final int CALLS = 512;

    /** Of the 600,000 and 7.3 million of a run, so little that even an object for each of 512 calls fits. */
    private static final int MOST_OBJECTS = 100;
    private static final int MOST_ELEMENTS = 2000;

    /** No object is of fewer bytes, so one in each round is seen; asking for the bytes makes a few itself. */
    private static final int LEAST_OBJECT = 16;

    private static void longestUse() {
        about("An object is used for at most 512 calls");
        HopCredits x = tape("h");
        x.net();
        int ticks = 0;
        for (int call = 2; call < CALLS - 12; call++) {
            ticks += 60;
            due("go(60)", x.go(60), ticks);
        }
        due("circuit(0, 3)", x.circuit(0, 3), ticks);
        due("circuit(0, 5)", x.circuit(0, 5), ticks - 1);
        due("lane(0, 0, 0)", x.lane(0, 0, 0), ticks % 64);
        due("lane(0, 0, 1)", x.lane(0, 0, 1), (ticks - 1) % 64);
        due("lane(0, 0, 2)", x.lane(0, 0, 2), (ticks - 2) % 64);
        due("lane(0, 0, 8)", x.lane(0, 0, 8), ticks);
        due("trip(0, 2)", x.trip(0, 2), ticks - 1);
        due("delivered(NONE, 200)", x.delivered(NONE, 200), 200);
        due("laneAhead(0, 0, 8, 200)", x.laneAhead(0, 0, 8, 200), ticks + 200);
        due("aim(0, 0)", x.aim(0, 0), 12);
        due("oldest(0)", x.oldest(0), 1);
        due("rule(5)", x.rule(5), ticks);
    }

    /** Some 280 go(60), with two changes by hand, good or refused, ahead of each four. */
    private static void longUseAsTheModel(String text) {
        about("512 calls on " + text);
        HopCredits x = net(text);
        Model model = new Model();
        feedModel(model, text);
        model.net();
        for (int call = 10; call < CALLS - 90; call += 6) {
            int round = call / 6;
            due("jam", x.jam(round % 3, round % 10), model.jam(round % 3, round % 10));
            due("takes", x.takes(round % 4, round % 7), model.takes(round % 4, round % 7));
            for (int i = 0; i < 4; i++) {
                due("go", x.go(60), model.go(60));
            }
        }
        for (int c = 0; c < x.rule(1); c++) {
            for (int what = 0; what < 7; what++) {
                due("circuit(" + c + ", " + what + ")", x.circuit(c, what), model.circuit(c, what));
            }
            for (int what = 0; what < 3; what++) {
                due("trip(" + c + ", " + what + ")", x.trip(c, what), model.trip(c, what));
            }
            for (int what = 0; what < 10; what++) {
                due("lane(0, " + c + ", " + what + ")", x.lane(0, c, what), model.lane(0, c, what));
            }
            due("oldest(" + c + ")", x.oldest(c), model.oldest(c));
        }
        due("delivered", x.delivered(NONE, 200), model.delivered(NONE, 200));
    }

    private static void feedModel(Model model, String text) {
        for (int i = 0; i < text.length(); i++) {
            model.feed(text.charAt(i), 0, 0, 0, 0);
        }
    }

    // ---- the room

    private static void roomOfAnObject() throws Exception {
        about("the room of an object");
        HopCredits x = new HopCredits();
        long[] before = roomOf(x);
        due("objects and arrays (" + before[0] + ") are few", before[0] <= MOST_OBJECTS, true);
        due("fields and elements (" + before[1] + ") are few", before[1] <= MOST_ELEMENTS, true);
        feed(x, "nr1a7p2;h;hd4;h;c;c;c");
        x.net();
        for (int i = 0; i < 20; i++) {
            eachCall(x, i);
        }
        long[] behind = roomOf(x);
        due("calls make it no larger", behind[0] <= before[0] && behind[1] <= before[1], true);
    }

    private static long[] roomOf(Object root) throws Exception {
        Set<Object> seen = Collections.newSetFromMap(new IdentityHashMap<>());
        Deque<Object> open = new ArrayDeque<>();
        open.add(root);
        seen.add(root);
        long elements = 0;
        while (!open.isEmpty()) {
            Object one = open.remove();
            elements += one.getClass().isArray() ? elementsOf(one, seen, open) : fieldsOf(one, seen, open);
        }
        return new long[] {seen.size(), elements};
    }

    private static int elementsOf(Object array, Set<Object> seen, Deque<Object> open) {
        int length = Array.getLength(array);
        for (int i = 0; i < length && !array.getClass().getComponentType().isPrimitive(); i++) {
            note(Array.get(array, i), seen, open);
        }
        return length;
    }

    private static int fieldsOf(Object one, Set<Object> seen, Deque<Object> open) throws Exception {
        int fields = 0;
        for (Field f : one.getClass().getDeclaredFields()) {
            if (!Modifier.isStatic(f.getModifiers())) {
                fields++;
                f.setAccessible(true);
                if (!f.getType().isPrimitive()) {
                    note(f.get(one), seen, open);
                }
            }
        }
        return fields;
    }

    private static void note(Object one, Set<Object> seen, Deque<Object> open) {
        if (one != null && seen.add(one)) {
            open.add(one);
        }
    }

    private static void roomOfCalls() {
        about("the room of calls");
        HopCredits x = net("nr2a5p3;hb20;hd4e2;he3;c;cg2;ct2");
        eachCall(x, 1);
        long before = madeSoFar();
        for (int i = 0; i < CALLS; i++) {
            eachCall(x, i);
        }
        long made = madeSoFar() - before;
        due("the NET of the latest round, CIRCUITS", x.rule(1), 2);
        due("bytes made by " + CALLS + " times each call: " + made, made < CALLS * LEAST_OBJECT, true);
    }

    private static long madeSoFar() {
        com.sun.management.ThreadMXBean threads =
                (com.sun.management.ThreadMXBean) ManagementFactory.getThreadMXBean();
        return threads.getThreadAllocatedBytes(Thread.currentThread().getId());
    }

    /** Every call of the face once, most with answers that are dear to find. */
    private static int eachCall(HopCredits x, int i) {
        int sum = x.feed('h', ';', 'c', 0, 0) + x.fault() + x.net() + x.status(0) + x.count(1);
        sum += x.feed(0x6e613570, 0x333b6862, 0x393b2068, 0x64346532, 0x3b633b63) + (x.end(20) ? 1 : 0) + x.net();
        return sum + x.go(1 + i % 60) + toldByEach(x) + byEachHand(x, i) + aheadByEach(x);
    }

    private static int toldByEach(HopCredits x) {
        return x.rule(5) + x.hop(0, 7) + x.circuit(0, 6) + x.lane(0, 0, 9) + x.buffer(0, 0) + x.way(0, 1, 4)
                + x.aim(0, 0) + x.room(0, 0) + x.trip(0, 2) + x.oldest(0) + x.count(5);
    }

    private static int byEachHand(HopCredits x, int i) {
        return x.jam(0, i % 10) + x.source(0, i % 10, i) + x.takes(0, i % 10) + x.zone(0, 0, 1 + i % 9) + x.probe(0, 0);
    }

    private static int aheadByEach(HopCredits x) {
        int sum = x.laneAhead(0, 0, 9, 200) + x.bufferAhead(1, 0, 200) + x.delivered(NONE, 200) + x.heldUp(0, 0);
        sum += x.idle(0, 200) + x.most(1, 0, 2, 200) + x.healed() + x.loss(9, 200) + x.fair(200) + x.learns(0, 0);
        sum += x.alone(4, 4, 30, 9, 200) + x.full(4, 4, 1, 200) + x.law(4, 4, 1) + (x.stuck() ? 1 : 0);
        sum += x.would(0, 0, 2, 200) + x.bestZone(0, 0, 60) + x.bears(200) + x.waits(0, 0, 200) + x.worst(0, 200);
        return sum + x.busiest(200);
    }

    public static void main(String[] args) throws Exception {
        longestUse();
        longUseAsTheModel("h;ct9");
        longUseAsTheModel("np5;hd3b6e2;hd2b9;h;c;cg2;cg3t2");
        longUseAsTheModel("nr2a20p1;hd4b30e4;hd4b30e4;hd4b30e4;c;c;c");
        roomOfAnObject();
        roomOfCalls();
        finish("objects last for their calls and need little room");
    }
}
