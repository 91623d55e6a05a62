import java.util.ArrayDeque;
import java.util.ArrayList;
import java.util.Arrays;
import java.util.Comparator;
import java.util.Deque;
import java.util.List;
import java.util.NoSuchElementException;

/**
 * The document once more, in another way: cells are objects, what is on a hop is a list of things with the TICK in
 * which they come, counters are never cut, and a look ahead works on a deep copy. Slow, and for tests alone.
 */
public final class Model {
    static final int NONE = -1;
    static final int HIDDEN = -1000000;

    private static final class Thing {
        final char kind;
        final int comes;
        final int hop;
        final int circuit;
        final long tells;
        final int cellCame;

        Thing(char kind, int comes, int hop, int circuit, long tells, int cellCame) {
            this.kind = kind;
            this.comes = comes;
            this.hop = hop;
            this.circuit = circuit;
            this.tells = tells;
            this.cellCame = cellCame;
        }
    }

    private static final class World {
        int hops, circuits, reserve, adapts, probes, tick, lost, asked;
        int[] delay, pool, every, jammed, latest, gap, start, takes, came, spilt, delivered, tripLatest, tripLongest;
        long[] tripTotal;
        long[][] sent, gone, known, zone, waited, sinceUpdate, sinceAdapt;
        List<Thing> underway = new ArrayList<>();
        List<List<Deque<Integer>>> buffers = new ArrayList<>();
        int[] sentNow;
        int deliveredNow;

        World(int hops, int circuits) {
            this.hops = hops;
            this.circuits = circuits;
            delay = new int[hops];
            pool = new int[hops];
            every = new int[hops];
            jammed = new int[hops];
            latest = new int[hops];
            sentNow = new int[hops];
            Arrays.fill(latest, -1);
            gap = new int[circuits];
            start = new int[circuits];
            takes = new int[circuits];
            came = new int[circuits];
            spilt = new int[circuits];
            delivered = new int[circuits];
            tripLatest = new int[circuits];
            tripLongest = new int[circuits];
            tripTotal = new long[circuits];
            sent = new long[hops][circuits];
            gone = new long[hops][circuits];
            known = new long[hops][circuits];
            zone = new long[hops][circuits];
            waited = new long[hops][circuits];
            sinceUpdate = new long[hops][circuits];
            sinceAdapt = new long[hops][circuits];
            for (int node = 0; node <= hops; node++) {
                List<Deque<Integer>> row = new ArrayList<>();
                for (int c = 0; c < circuits; c++) {
                    row.add(new ArrayDeque<>());
                }
                buffers.add(row);
            }
        }

        World twin() {
            World w = new World(hops, circuits);
            w.reserve = reserve;
            w.adapts = adapts;
            w.probes = probes;
            w.tick = tick;
            w.lost = lost;
            w.asked = asked;
            w.delay = delay.clone();
            w.pool = pool.clone();
            w.every = every.clone();
            w.jammed = jammed.clone();
            w.latest = latest.clone();
            w.gap = gap.clone();
            w.start = start.clone();
            w.takes = takes.clone();
            w.came = came.clone();
            w.spilt = spilt.clone();
            w.delivered = delivered.clone();
            w.tripLatest = tripLatest.clone();
            w.tripLongest = tripLongest.clone();
            w.tripTotal = tripTotal.clone();
            w.sent = deep(sent);
            w.gone = deep(gone);
            w.known = deep(known);
            w.zone = deep(zone);
            w.waited = deep(waited);
            w.sinceUpdate = deep(sinceUpdate);
            w.sinceAdapt = deep(sinceAdapt);
            w.underway = new ArrayList<>(underway);
            for (int node = 0; node <= hops; node++) {
                for (int c = 0; c < circuits; c++) {
                    w.buffers.get(node).get(c).addAll(buffers.get(node).get(c));
                }
            }
            return w;
        }

        private static long[][] deep(long[][] rows) {
            long[][] copy = new long[rows.length][];
            for (int i = 0; i < rows.length; i++) {
                copy[i] = rows[i].clone();
            }
            return copy;
        }

        long out(int h, int c) {
            return sent[h][c] - known[h][c];
        }

        boolean hungry(int h, int c) {
            return !buffers.get(h).get(c).isEmpty() && out(h, c) >= zone[h][c];
        }

        void tell(int h, int c) {
            if (jammed[h] > 0) {
                jammed[h]--;
                lost++;
                return;
            }
            int comes = tick + delay[h];
            underway.removeIf(t -> t.kind == 'u' && t.hop == h && t.circuit == c && t.comes == comes);
            underway.add(new Thing('u', comes, h, c, gone[h][c], 0));
        }

        void ask(int h, int c) {
            asked++;
            waited[h][c] = 0;
            underway.add(new Thing('p', tick + delay[h], h, c, 0, 0));
        }

        void left(int h, int c) {
            gone[h][c]++;
            sinceUpdate[h][c]++;
            if (sinceUpdate[h][c] == every[h]) {
                sinceUpdate[h][c] = 0;
                tell(h, c);
            }
        }

        void arrive() {
            List<Thing> here = new ArrayList<>();
            for (Thing t : underway) {
                if (t.comes == tick) {
                    here.add(t);
                }
            }
            underway.removeAll(here);
            here.sort(Comparator.comparingInt(t -> t.circuit));
            for (Thing t : here) {
                if (t.kind == 'c') {
                    buffers.get(t.hop + 1).get(t.circuit).addLast(t.cellCame);
                } else if (t.kind == 'u') {
                    known[t.hop][t.circuit] = Math.max(known[t.hop][t.circuit], t.tells);
                } else {
                    tell(t.hop, t.circuit);
                }
            }
        }

        void waitOver(int h) {
            for (int c = 0; c < circuits; c++) {
                if (hungry(h, c)) {
                    waited[h][c]++;
                    if (probes > 0 && waited[h][c] == probes) {
                        ask(h, c);
                    }
                } else {
                    waited[h][c] = 0;
                }
            }
        }

        void sendOver(int h) {
            sentNow[h] = -1;
            int c = latest[h];
            for (int k = 0; k < circuits; k++) {
                c = c + 1 == circuits ? 0 : c + 1;
                if (!buffers.get(h).get(c).isEmpty() && out(h, c) < zone[h][c]) {
                    int cell = buffers.get(h).get(c).removeFirst();
                    underway.add(new Thing('c', tick + delay[h], h, c, 0, cell));
                    sent[h][c]++;
                    sinceAdapt[h][c]++;
                    latest[h] = c;
                    sentNow[h] = c;
                    if (h > 0) {
                        left(h - 1, c);
                    }
                    return;
                }
            }
        }

        long aim(int h, int c) {
            long all = 0;
            for (int k = 0; k < circuits; k++) {
                all += sinceAdapt[h][k];
            }
            long free = pool[h] - reserve * circuits;
            return all == 0 ? reserve + free / circuits : reserve + free * sinceAdapt[h][c] / all;
        }

        long free(int h, int c) {
            long room = pool[h];
            for (int k = 0; k < circuits; k++) {
                room -= k == c ? 0 : Math.max(zone[h][k], out(h, k));
            }
            return room;
        }

        void adapt(int h) {
            long[] aims = new long[circuits];
            for (int c = 0; c < circuits; c++) {
                aims[c] = aim(h, c);
            }
            for (int c = 0; c < circuits; c++) {
                if (zone[h][c] > aims[c]) {
                    zone[h][c] = aims[c];
                }
            }
            for (int c = 0; c < circuits; c++) {
                if (zone[h][c] < aims[c]) {
                    long lesser = Math.min(aims[c], free(h, c));
                    if (lesser > zone[h][c]) {
                        zone[h][c] = lesser;
                    }
                }
            }
            Arrays.fill(sinceAdapt[h], 0);
        }

        void tickOn() {
            deliveredNow = 0;
            arrive();
            for (int c = 0; c < circuits; c++) {
                if (gap[c] > 0 && tick >= start[c] && (tick - start[c]) % gap[c] == 0) {
                    came[c]++;
                    if (buffers.get(0).get(c).size() == 99) {
                        spilt[c]++;
                    } else {
                        buffers.get(0).get(c).addLast(tick);
                    }
                }
            }
            for (int c = 0; c < circuits; c++) {
                if (takes[c] > 0 && tick % takes[c] == 0 && !buffers.get(hops).get(c).isEmpty()) {
                    int trip = tick - buffers.get(hops).get(c).removeFirst();
                    tripLatest[c] = trip;
                    tripLongest[c] = Math.max(tripLongest[c], trip);
                    tripTotal[c] += trip;
                    delivered[c]++;
                    deliveredNow++;
                    left(hops - 1, c);
                }
            }
            for (int h = hops - 1; h >= 0; h--) {
                sendOver(h);
                waitOver(h);
            }
            if (adapts > 0 && (tick + 1) % adapts == 0) {
                for (int h = 0; h < hops; h++) {
                    adapt(h);
                }
            }
            checkPools();
            tick++;
        }

        /** Taken back without ever flowing over. */
        void checkPools() {
            for (int h = 0; h < hops; h++) {
                long held = 0;
                for (int c = 0; c < circuits; c++) {
                    held += Math.max(zone[h][c], out(h, c));
                }
                if (held > pool[h]) {
                    throw new AssertionError("a POOL flows over");
                }
            }
        }

        World ahead(int n) {
            World w = twin();
            for (int i = 0; i < n; i++) {
                w.tickOn();
            }
            return w;
        }

        int on(char kind, int h, int c) {
            int things = 0;
            for (Thing t : underway) {
                if (t.kind == kind && t.hop == h && (c == NONE || t.circuit == c)) {
                    things++;
                }
            }
            return things;
        }

        int cells(int c) {
            int cells = 0;
            for (int node = 0; node <= hops; node++) {
                cells += buffers.get(node).get(c).size();
            }
            for (int h = 0; h < hops; h++) {
                cells += on('c', h, c);
            }
            return cells;
        }

        int cells() {
            int cells = 0;
            for (int c = 0; c < circuits; c++) {
                cells += cells(c);
            }
            return cells;
        }

        int given() {
            return Arrays.stream(delivered).sum();
        }

        int untold() {
            int n = 0;
            for (int h = 0; h < hops; h++) {
                for (int c = 0; c < circuits; c++) {
                    n += known[h][c] == gone[h][c] ? 0 : 1;
                }
            }
            return n;
        }
    }

    private final StringBuilder tape = new StringBuilder();
    private final int[] status = new int[4];
    private World now;

    // ---- the tape

    public int feed(int a, int b, int c, int d, int e) {
        StringBuilder more = new StringBuilder();
        for (int word : new int[] {a, b, c, d, e}) {
            for (int k = 3; k >= 0; k--) {
                char sign = (char) ((word >> (8 * k)) & 0xff);
                if (sign != 0) {
                    more.append(sign);
                }
            }
        }
        if (tape.length() + more.length() > 160) {
            return NONE;
        }
        tape.append(more);
        return tape.length();
    }

    public boolean end(int n) {
        if (n < 0 || n > tape.length()) {
            return false;
        }
        tape.setLength(n);
        return true;
    }

    public int fault() {
        return read(tape.toString(), null);
    }

    public int net() {
        String text = tape.toString();
        if (read(text, null) != NONE) {
            return NONE;
        }
        String plain = text.replace(" ", "");
        int hops = 0;
        int circuits = 0;
        for (String clause : plain.split(";")) {
            hops += clause.charAt(0) == 'h' ? 1 : 0;
            circuits += clause.charAt(0) == 'c' ? 1 : 0;
        }
        World w = new World(Math.max(1, hops), Math.max(1, circuits));
        w.reserve = 1;
        Arrays.fill(w.delay, 1);
        Arrays.fill(w.pool, 12);
        Arrays.fill(w.every, 1);
        Arrays.fill(w.gap, 1);
        Arrays.fill(w.takes, 1);
        read(text, w);
        for (int h = 0; h < w.hops; h++) {
            w.pool[h] = Math.max(w.pool[h], w.reserve * w.circuits);
            Arrays.fill(w.zone[h], w.pool[h] / w.circuits);
        }
        tape.setLength(0);
        now = w;
        return w.circuits;
    }

    /** A walk over the signs, state by state; the fault, or NONE with the values laid in the world. */
    private static int read(String text, World w) {
        final int head = 0;
        final int item = 1;
        final int number = 2;
        final int digits = 3;
        int state = head;
        int[] told = new int[128];
        char clause = 0;
        char letter = 0;
        String seen = "";
        String value = "";
        boolean first = true;
        for (int i = 0; i <= text.length(); i++) {
            int sign = i < text.length() ? text.charAt(i) : 0;
            boolean digit = sign >= '0' && sign <= '9';
            if (state == digits && digit) {
                value += (char) sign;
                if (value.length() == 3) {
                    return i;
                }
                continue;
            }
            if (state == digits) {
                if (!lay(w, clause, told[clause] - 1, letter, Integer.parseInt(value))) {
                    return i - 1;
                }
                state = item;
            }
            if (sign == ' ') {
                continue;
            }
            if (sign == 0) {
                return state == item ? NONE : i;
            }
            if (state == head) {
                boolean good = sign == 'n' ? first : (sign == 'h' || sign == 'c') && told[sign] < 3;
                if (!good) {
                    return i;
                }
                clause = (char) sign;
                told[clause]++;
                seen = "";
                first = false;
                state = item;
            } else if (state == item && sign == ';') {
                state = head;
            } else if (state == item) {
                String letters = clause == 'n' ? "rap" : clause == 'h' ? "dbe" : "gst";
                if (letters.indexOf(sign) < 0 || seen.indexOf(sign) >= 0) {
                    return i;
                }
                letter = (char) sign;
                seen += letter;
                state = number;
            } else if (digit) {
                value = "" + (char) sign;
                state = digits;
            } else {
                return i;
            }
        }
        return NONE;
    }

    private static boolean lay(World w, char clause, int k, char letter, int v) {
        int low = "rdbe".indexOf(letter) >= 0 ? 1 : 0;
        int high = "rde".indexOf(letter) >= 0 ? 4 : letter == 'b' ? 30 : "as".indexOf(letter) >= 0 ? 20 : 9;
        if (v < low || v > high) {
            return false;
        }
        if (w != null) {
            switch (letter) {
                case 'r': w.reserve = v; break;
                case 'a': w.adapts = v; break;
                case 'p': w.probes = v; break;
                case 'd': w.delay[k] = v; break;
                case 'b': w.pool[k] = v; break;
                case 'e': w.every[k] = v; break;
                case 'g': w.gap[k] = v; break;
                case 's': w.start[k] = v; break;
                default: w.takes[k] = v; break;
            }
        }
        return true;
    }

    // ---- told

    private boolean noHop(int h) {
        return now == null || h < 0 || h >= now.hops;
    }

    private boolean noCircuit(int c) {
        return now == null || c < 0 || c >= now.circuits;
    }

    private boolean noNode(int node) {
        return now == null || node < 0 || node > now.hops;
    }

    private int refuse(int why) {
        status[why]++;
        return NONE;
    }

    public int rule(int what) {
        if (now == null || what < 0 || what > 5) {
            return HIDDEN;
        }
        return new int[] {now.hops, now.circuits, now.reserve, now.adapts, now.probes, now.tick}[what];
    }

    public int hop(int h, int what) {
        if (noHop(h) || what < 0 || what > 7) {
            throw new NoSuchElementException();
        }
        return new int[] {now.delay[h], now.pool[h], now.every[h], now.jammed[h], now.on('c', h, NONE), now.latest[h],
            now.on('u', h, NONE), now.on('p', h, NONE)}[what];
    }

    public int circuit(int c, int what) {
        if (noCircuit(c) || what < 0 || what > 6) {
            throw new NoSuchElementException();
        }
        return new int[] {now.gap[c], now.start[c], now.takes[c], now.came[c], now.spilt[c], now.delivered[c],
            now.cells(c)}[what];
    }

    public int lane(int h, int c, int what) {
        return noHop(h) || noCircuit(c) || what < 0 || what > 9 ? NONE : lane(now, h, c, what);
    }

    private static int lane(World w, int h, int c, int what) {
        return (int) new long[] {w.sent[h][c] % 64, w.gone[h][c] % 64, w.known[h][c] % 64, w.zone[h][c], w.out(h, c),
            Math.max(0, w.zone[h][c] - w.out(h, c)), w.waited[h][c], w.sinceUpdate[h][c], w.sinceAdapt[h][c],
            w.on('c', h, c)}[what];
    }

    public int buffer(int node, int c) {
        return noNode(node) || noCircuit(c) ? NONE : now.buffers.get(node).get(c).size();
    }

    public int way(int h, int ticks, int what) {
        if (noHop(h) || ticks < 1 || ticks > 5 || what < 0 || what > 4) {
            return NONE;
        }
        int answer = NONE;
        for (Thing t : now.underway) {
            if (t.hop == h && t.comes == now.tick + ticks - 1) {
                if (t.kind == 'c' && what == 0) {
                    answer = t.circuit;
                } else if (t.kind == 'u' && what == t.circuit + 1) {
                    answer = (int) (t.tells % 64);
                } else if (t.kind == 'p' && what == 4) {
                    answer = Math.max(answer, 0) | (1 << t.circuit);
                }
            }
        }
        return answer;
    }

    // ---- by hand

    public int go(int n) {
        if (now == null) {
            return refuse(0);
        }
        if (n < 1 || n > 60) {
            return refuse(1);
        }
        for (int i = 0; i < n; i++) {
            now.tickOn();
        }
        return now.tick;
    }

    public int jam(int h, int updates) {
        if (noHop(h)) {
            return refuse(0);
        }
        if (updates < 0 || updates > 9) {
            return refuse(1);
        }
        int was = now.jammed[h];
        if (was == updates) {
            return refuse(2);
        }
        now.jammed[h] = updates;
        return was;
    }

    public int source(int c, int gap, int start) {
        if (noCircuit(c)) {
            return refuse(0);
        }
        if (gap < 0 || gap > 9 || start < 0 || start > 999) {
            return refuse(1);
        }
        int was = now.gap[c];
        if (was == gap && now.start[c] == start) {
            return refuse(2);
        }
        now.gap[c] = gap;
        now.start[c] = start;
        return was;
    }

    public int takes(int c, int takes) {
        if (noCircuit(c)) {
            return refuse(0);
        }
        if (takes < 0 || takes > 9) {
            return refuse(1);
        }
        int was = now.takes[c];
        if (was == takes) {
            return refuse(2);
        }
        now.takes[c] = takes;
        return was;
    }

    private int zoneWrong(int h, int c, int cells) {
        if (noHop(h) || noCircuit(c)) {
            return 0;
        }
        if (cells < now.reserve || cells > now.pool[h]) {
            return 1;
        }
        if (cells == now.zone[h][c]) {
            return 2;
        }
        return cells > now.zone[h][c] && cells > now.free(h, c) ? 3 : NONE;
    }

    public int zone(int h, int c, int cells) {
        int wrong = zoneWrong(h, c, cells);
        if (wrong != NONE) {
            return refuse(wrong);
        }
        int was = (int) now.zone[h][c];
        now.zone[h][c] = cells;
        return was;
    }

    public int probe(int h, int c) {
        if (noHop(h) || noCircuit(c)) {
            return refuse(0);
        }
        now.ask(h, c);
        return (int) now.out(h, c);
    }

    public int status(int what) {
        return what < 0 || what > 3 ? NONE : status[what];
    }

    // ---- apart

    public int laneAhead(int h, int c, int what, int n) {
        if (noHop(h) || noCircuit(c) || what < 0 || what > 9 || n < 0 || n > 200) {
            return NONE;
        }
        return lane(now.ahead(n), h, c, what);
    }

    public int bufferAhead(int node, int c, int n) {
        if (noNode(node) || noCircuit(c) || n < 0 || n > 200) {
            return NONE;
        }
        return now.ahead(n).buffers.get(node).get(c).size();
    }

    public int delivered(int c, int n) {
        if (now == null || n < 0 || n > 200 || (c != NONE && noCircuit(c))) {
            return NONE;
        }
        World w = now.ahead(n);
        return c == NONE ? w.given() - now.given() : w.delivered[c] - now.delivered[c];
    }

    public int heldUp(int h, int c) {
        if (noHop(h) || noCircuit(c)) {
            return NONE;
        }
        World w = now.twin();
        for (int n = 1; n <= 200; n++) {
            w.tickOn();
            if (w.sent[h][c] > now.sent[h][c]) {
                return n;
            }
        }
        return NONE;
    }

    public int idle(int h, int n) {
        if (noHop(h) || n < 1 || n > 200) {
            return NONE;
        }
        return n - busyTicks(h, n);
    }

    private int busyTicks(int h, int n) {
        World w = now.ahead(n);
        long cells = 0;
        for (int c = 0; c < now.circuits; c++) {
            cells += w.sent[h][c] - now.sent[h][c];
        }
        return (int) cells;
    }

    public int most(int node, int c, int what, int n) {
        if (noNode(node) || noCircuit(c) || what < 0 || what > 3 || n < 0 || n > 200 || (node == 0 && what > 1)) {
            return NONE;
        }
        World w = now.twin();
        int most = 0;
        for (int i = 0; i <= n; i++) {
            int cells = 0;
            for (int k = 0; k < w.circuits; k++) {
                if (k == c || what == 1 || what == 2) {
                    cells += w.buffers.get(node).get(k).size() + (what > 1 ? w.on('c', node - 1, k) : 0);
                }
            }
            most = Math.max(most, cells);
            w.tickOn();
        }
        return most;
    }

    public int healed() {
        if (now == null) {
            return NONE;
        }
        World w = now.twin();
        for (int n = 0; n <= 200; n++) {
            if (w.untold() == 0) {
                return n;
            }
            w.arrive();
            for (int h = 0; h < w.hops; h++) {
                w.waitOver(h);
            }
            w.tick++;
        }
        return NONE;
    }

    private int given(int jam, int n) {
        World w = now.twin();
        if (jam >= 0) {
            Arrays.fill(w.jammed, jam);
        }
        return w.ahead(n).given() - now.given();
    }

    public int loss(int updates, int n) {
        if (now == null || updates < 1 || updates > 9 || n < 1 || n > 200) {
            return HIDDEN;
        }
        return given(NONE, n) - given(updates, n);
    }

    public int fair(int n) {
        if (now == null || n < 1 || n > 200) {
            return NONE;
        }
        World w = now.ahead(n);
        int[] cells = new int[w.circuits];
        for (int c = 0; c < w.circuits; c++) {
            cells[c] = w.delivered[c] - now.delivered[c];
        }
        return Arrays.stream(cells).max().getAsInt() - Arrays.stream(cells).min().getAsInt();
    }

    public int alone(int delay, int every, int zone, int takes, int n) {
        if (zone < 1 || zone > 30 || noLink(delay, every, takes, n)) {
            return NONE;
        }
        return linkAlone(delay, every, zone, takes, n);
    }

    private static boolean noLink(int delay, int every, int takes, int n) {
        return delay < 1 || delay > 4 || every < 1 || every > 4 || takes < 1 || takes > 9 || n < 1 || n > 200;
    }

    private static int linkAlone(int delay, int every, int zone, int takes, int n) {
        boolean[] cell = new boolean[n + 9];
        int[] told = new int[n + 9];
        int buffer = 0;
        int gone = 0;
        int known = 0;
        int sent = 0;
        for (int t = 0; t < n; t++) {
            buffer += cell[t] ? 1 : 0;
            known = Math.max(known, told[t]);
            if (t % takes == 0 && buffer > 0) {
                buffer--;
                gone++;
                if (gone % every == 0) {
                    told[t + delay] = gone;
                }
            }
            if (sent - known < zone) {
                sent++;
                cell[t + delay] = true;
            }
        }
        return sent;
    }

    public int full(int delay, int every, int takes, int n) {
        if (noLink(delay, every, takes, n)) {
            return NONE;
        }
        int zone = 1;
        while (linkAlone(delay, every, zone, takes, n) != linkAlone(delay, every, 30, takes, n)) {
            zone++;
        }
        return zone;
    }

    public int law(int delay, int every, int gap) {
        if (delay < 1 || delay > 4 || every < 1 || every > 4 || gap < 1 || gap > 9) {
            return NONE;
        }
        int cells = 0;
        while (cells * gap < 2 * delay) {
            cells++;
        }
        return cells + every - 1;
    }

    public int aim(int h, int c) {
        return noHop(h) || noCircuit(c) ? NONE : (int) now.aim(h, c);
    }

    public int room(int h, int c) {
        if (noHop(h) || noCircuit(c)) {
            return NONE;
        }
        int most = (int) now.zone[h][c];
        for (int cells = 1; cells <= 30; cells++) {
            if (zoneWrong(h, c, cells) == NONE) {
                most = Math.max(most, cells);
            }
        }
        return most;
    }

    public int trip(int c, int what) {
        if (noCircuit(c) || what < 0 || what > 2 || now.delivered[c] == 0) {
            return NONE;
        }
        return (int) new long[] {now.tripLatest[c], now.tripLongest[c], now.tripTotal[c]}[what];
    }

    public int oldest(int c) {
        if (noCircuit(c) || now.cells(c) == 0) {
            return NONE;
        }
        int first = Integer.MAX_VALUE;
        for (int node = 0; node <= now.hops; node++) {
            for (int came : now.buffers.get(node).get(c)) {
                first = Math.min(first, came);
            }
        }
        for (Thing t : now.underway) {
            if (t.kind == 'c' && t.circuit == c) {
                first = Math.min(first, t.cellCame);
            }
        }
        return now.tick - first;
    }

    public int learns(int h, int c) {
        if (noHop(h) || noCircuit(c)) {
            return NONE;
        }
        World w = now.twin();
        for (int n = 0; n <= 200; n++) {
            if (w.known[h][c] >= now.gone[h][c]) {
                return n;
            }
            w.tickOn();
        }
        return NONE;
    }

    public boolean stuck() {
        if (now == null || now.cells() == 0) {
            return false;
        }
        World w = now.ahead(200);
        return w.given() == now.given() && Arrays.deepEquals(w.sent, now.sent);
    }

    public int would(int h, int c, int cells, int n) {
        if (zoneWrong(h, c, cells) != NONE || n < 0 || n > 200) {
            return NONE;
        }
        return givenByZone(h, c, cells, n);
    }

    private int givenByZone(int h, int c, int cells, int n) {
        World w = now.twin();
        w.zone[h][c] = cells;
        return w.ahead(n).given() - now.given();
    }

    public int bestZone(int h, int c, int n) {
        if (noHop(h) || noCircuit(c) || n < 1 || n > 60) {
            return NONE;
        }
        int best = NONE;
        int most = NONE;
        for (int cells = 30; cells >= 1; cells--) {
            if (cells == now.zone[h][c] || zoneWrong(h, c, cells) == NONE) {
                int given = givenByZone(h, c, cells, n);
                if (given >= most) {
                    most = given;
                    best = cells;
                }
            }
        }
        return best;
    }

    public int bears(int n) {
        if (now == null || n < 1 || n > 200) {
            return NONE;
        }
        int bears = 0;
        for (int updates = 1; updates <= 9; updates++) {
            if (given(updates, n) >= given(NONE, n)) {
                bears = updates;
            }
        }
        return bears;
    }

    public int waits(int h, int c, int n) {
        if (noHop(h) || noCircuit(c) || n < 1 || n > 200) {
            return NONE;
        }
        World w = now.twin();
        int ticks = 0;
        for (int i = 0; i < n; i++) {
            w.tickOn();
            ticks += w.hungry(h, c) ? 1 : 0;
        }
        return ticks;
    }

    public int worst(int c, int n) {
        if (noCircuit(c) || n < 1 || n > 200) {
            return NONE;
        }
        int worst = NONE;
        for (int h = now.hops - 1; h >= 0; h--) {
            int ticks = waits(h, c, n);
            if (ticks > 0 && (worst == NONE || ticks >= waits(worst, c, n))) {
                worst = h;
            }
        }
        return worst;
    }

    public int busiest(int n) {
        if (now == null || n < 1 || n > 200) {
            return NONE;
        }
        int busiest = now.hops - 1;
        for (int h = now.hops - 2; h >= 0; h--) {
            if (busyTicks(h, n) >= busyTicks(busiest, n)) {
                busiest = h;
            }
        }
        return busiest;
    }

    public int count(int what) {
        if (what == 0) {
            return tape.length();
        }
        if (now == null || what < 0 || what > 5) {
            return HIDDEN;
        }
        return new int[] {0, now.cells(), now.given(), now.lost, now.asked, now.untold()}[what];
    }
}
