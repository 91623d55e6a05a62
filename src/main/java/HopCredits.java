import java.util.NoSuchElementException;

/** Credits hop by hop: circuits that send their cells over links of some delay, as far as they have credit. */
public final class HopCredits {
    public static final int NONE = -1;
    public static final int HIDDEN = -1000000;

    private static final int MOST_HOPS = 3;
    private static final int MOST_CIRCUITS = 3;
    private static final int TAPE_ROOM = 160;
    private static final int SOURCE_ROOM = 99;
    private static final int LARGEST_POOL = 30;
    private static final int FAR = 200;
    private static final int COUNTER_MASK = 63;
    private static final int COUNTER_HALF = 32;

    /** What is sent in a TICK comes 1 to 4 TICKS later, so five TICKS never share a slot. */
    private static final int SLOTS = 5;

    private static final int NO_SUCH_ONE = 0;
    private static final int OUT_OF_BOUNDS = 1;
    private static final int IT_IS_SO = 2;
    private static final int NO_ROOM = 3;
    private static final int REASONS = 4;

    private final int[] tape = new int[TAPE_ROOM];
    private int tapeLength;
    private final int[] refused = new int[REASONS];
    private final Reading reading = new Reading();
    private final Net now = new Net();
    private final Net apart = new Net();
    private final Trips[] trips = new Trips[MOST_CIRCUITS];
    private final int[] tally = new int[MOST_HOPS];
    private boolean laid;

    public HopCredits() {
        for (int c = 0; c < MOST_CIRCUITS; c++) {
            trips[c] = new Trips();
        }
    }

    // ---- the TAPE and the NET

    public int feed(int a, int b, int c, int d, int e) {
        int more = signsIn(a) + signsIn(b) + signsIn(c) + signsIn(d) + signsIn(e);
        if (tapeLength + more > TAPE_ROOM) {
            return NONE;
        }
        append(a);
        append(b);
        append(c);
        append(d);
        append(e);
        return tapeLength;
    }

    private static int signsIn(int word) {
        int signs = 0;
        for (int shift = 24; shift >= 0; shift -= 8) {
            if (((word >>> shift) & 255) != 0) {
                signs++;
            }
        }
        return signs;
    }

    private void append(int word) {
        for (int shift = 24; shift >= 0; shift -= 8) {
            int sign = (word >>> shift) & 255;
            if (sign != 0 && tapeLength < TAPE_ROOM) {
                tape[tapeLength] = sign;
                tapeLength++;
            }
        }
    }

    public boolean end(int n) {
        if (outside(n, 0, tapeLength)) {
            return false;
        }
        tapeLength = n;
        return true;
    }

    public int fault() {
        return reading.faultOf(tape, tapeLength);
    }

    public int net() {
        if (reading.faultOf(tape, tapeLength) != NONE) {
            return NONE;
        }
        now.lay(reading);
        for (int c = 0; c < MOST_CIRCUITS; c++) {
            trips[c].clear();
        }
        laid = true;
        tapeLength = 0;
        return now.circuits;
    }

    // ---- what is told of it now

    public int rule(int what) {
        if (!laid) {
            return HIDDEN;
        }
        switch (what) {
            case 0: return now.hops;
            case 1: return now.circuits;
            case 2: return now.reserve;
            case 3: return now.adapts;
            case 4: return now.probes;
            case 5: return now.tick;
            default: return HIDDEN;
        }
    }

    public int hop(int hop, int what) throws NoSuchElementException {
        if (!isHop(hop) || outside(what, 0, 7)) {
            throw new NoSuchElementException("no such HOP");
        }
        Link link = now.links[hop];
        switch (what) {
            case 0: return link.delay;
            case 1: return link.pool;
            case 2: return link.every;
            case 3: return link.jammed;
            case 4: return link.cellsOn();
            case 5: return link.latest;
            case 6: return link.updatesOn();
            default: return link.probesOn();
        }
    }

    public int circuit(int circuit, int what) throws NoSuchElementException {
        if (!isCircuit(circuit) || outside(what, 0, 6)) {
            throw new NoSuchElementException("no such CIRCUIT");
        }
        Flow flow = now.flows[circuit];
        switch (what) {
            case 0: return flow.gap;
            case 1: return flow.start;
            case 2: return flow.takes;
            case 3: return flow.came;
            case 4: return flow.spilt;
            case 5: return flow.delivered;
            default: return now.cellsOf(circuit);
        }
    }

    public int lane(int hop, int circuit, int what) {
        if (!isLane(hop, circuit) || outside(what, 0, 9)) {
            return NONE;
        }
        return toldOfLane(now, hop, circuit, what);
    }

    private static int toldOfLane(Net net, int hop, int circuit, int what) {
        Link link = net.links[hop];
        Lane lane = link.lanes[circuit];
        switch (what) {
            case 0: return lane.sent;
            case 1: return lane.gone;
            case 2: return lane.known;
            case 3: return lane.zone;
            case 4: return lane.out();
            case 5: return lane.credit();
            case 6: return lane.waited;
            case 7: return lane.sinceUpdate;
            case 8: return lane.sinceAdapt;
            default: return link.cellsOnOf(circuit);
        }
    }

    public int buffer(int node, int circuit) {
        if (!isNode(node) || !isCircuit(circuit)) {
            return NONE;
        }
        return now.waitingAt(node, circuit);
    }

    public int way(int hop, int ticks, int what) {
        if (!isHop(hop) || outside(ticks, 1, SLOTS) || outside(what, 0, 4)) {
            return NONE;
        }
        Link link = now.links[hop];
        int slot = (now.tick + ticks - 1) % SLOTS;
        if (what == 0) {
            return link.cellAt[slot];
        }
        if (what == 4) {
            int bits = link.probeBits(slot);
            return bits == 0 ? NONE : bits;
        }
        return isCircuit(what - 1) ? link.updateAt[slot * MOST_CIRCUITS + what - 1] : NONE;
    }

    // ---- by hand

    public int go(int n) {
        if (!laid) {
            return refuse(NO_SUCH_ONE);
        }
        if (outside(n, 1, 60)) {
            return refuse(OUT_OF_BOUNDS);
        }
        for (int i = 0; i < n; i++) {
            stepForReal();
        }
        return now.tick;
    }

    /** TRIPS are kept beside the NET, so that what is tried apart never copies them. */
    private void stepForReal() {
        int tick = now.tick;
        now.step();
        for (int c = 0; c < now.circuits; c++) {
            Flow flow = now.flows[c];
            if (flow.cameNow) {
                trips[c].begin(tick);
            }
            if (flow.deliveredNow) {
                trips[c].finish(tick);
            }
        }
    }

    public int jam(int hop, int updates) {
        if (!isHop(hop)) {
            return refuse(NO_SUCH_ONE);
        }
        if (outside(updates, 0, 9)) {
            return refuse(OUT_OF_BOUNDS);
        }
        Link link = now.links[hop];
        int was = link.jammed;
        if (updates == was) {
            return refuse(IT_IS_SO);
        }
        link.jammed = updates;
        return was;
    }

    public int source(int circuit, int gap, int start) {
        if (!isCircuit(circuit)) {
            return refuse(NO_SUCH_ONE);
        }
        if (outside(gap, 0, 9) || outside(start, 0, 999)) {
            return refuse(OUT_OF_BOUNDS);
        }
        Flow flow = now.flows[circuit];
        int was = flow.gap;
        if (gap == was && start == flow.start) {
            return refuse(IT_IS_SO);
        }
        flow.gap = gap;
        flow.start = start;
        return was;
    }

    public int takes(int circuit, int takes) {
        if (!isCircuit(circuit)) {
            return refuse(NO_SUCH_ONE);
        }
        if (outside(takes, 0, 9)) {
            return refuse(OUT_OF_BOUNDS);
        }
        Flow flow = now.flows[circuit];
        int was = flow.takes;
        if (takes == was) {
            return refuse(IT_IS_SO);
        }
        flow.takes = takes;
        return was;
    }

    public int zone(int hop, int circuit, int cells) {
        int reason = zoneRefusal(hop, circuit, cells);
        if (reason != NONE) {
            return refuse(reason);
        }
        Lane lane = now.links[hop].lanes[circuit];
        int was = lane.zone;
        lane.zone = cells;
        return was;
    }

    private int zoneRefusal(int hop, int circuit, int cells) {
        if (!isLane(hop, circuit)) {
            return NO_SUCH_ONE;
        }
        Link link = now.links[hop];
        if (outside(cells, now.reserve, link.pool)) {
            return OUT_OF_BOUNDS;
        }
        if (cells == link.lanes[circuit].zone) {
            return IT_IS_SO;
        }
        return cells > largestZone(hop, circuit) ? NO_ROOM : NONE;
    }

    /** A ZONE may always stay as it is, whatever room the POOL has. */
    private int largestZone(int hop, int circuit) {
        Link link = now.links[hop];
        return Math.max(link.lanes[circuit].zone, link.roomFor(circuit, now.circuits));
    }

    public int probe(int hop, int circuit) {
        if (!isLane(hop, circuit)) {
            return refuse(NO_SUCH_ONE);
        }
        now.sendProbe(now.links[hop], circuit);
        return now.links[hop].lanes[circuit].out();
    }

    public int status(int what) {
        return outside(what, 0, REASONS - 1) ? NONE : refused[what];
    }

    private int refuse(int reason) {
        refused[reason]++;
        return NONE;
    }

    // ---- apart, from as it is now

    public int laneAhead(int hop, int circuit, int what, int n) {
        if (!isLane(hop, circuit) || outside(what, 0, 9) || outside(n, 0, FAR)) {
            return NONE;
        }
        goApart(n);
        return toldOfLane(apart, hop, circuit, what);
    }

    public int bufferAhead(int node, int circuit, int n) {
        if (!isNode(node) || !isCircuit(circuit) || outside(n, 0, FAR)) {
            return NONE;
        }
        goApart(n);
        return apart.waitingAt(node, circuit);
    }

    private void goApart(int n) {
        apart.copy(now);
        apart.steps(n);
    }

    public int delivered(int circuit, int n) {
        if (!laid || outside(n, 0, FAR) || (circuit != NONE && !isCircuit(circuit))) {
            return NONE;
        }
        goApart(n);
        return circuit == NONE ? deliveredApart() : deliveredApartOf(circuit);
    }

    private int deliveredApart() {
        return apart.deliveredOfAll() - now.deliveredOfAll();
    }

    private int deliveredApartOf(int circuit) {
        return apart.flows[circuit].delivered - now.flows[circuit].delivered;
    }

    public int heldUp(int hop, int circuit) {
        if (!isLane(hop, circuit)) {
            return NONE;
        }
        apart.copy(now);
        for (int n = 1; n <= FAR; n++) {
            apart.step();
            if (apart.links[hop].sender == circuit) {
                return n;
            }
        }
        return NONE;
    }

    public int idle(int hop, int n) {
        if (!isHop(hop) || outside(n, 1, FAR)) {
            return NONE;
        }
        tallyIdle(n);
        return tally[hop];
    }

    private void tallyIdle(int n) {
        clearTally();
        apart.copy(now);
        for (int i = 0; i < n; i++) {
            apart.step();
            for (int h = 0; h < apart.hops; h++) {
                if (apart.links[h].sender == NONE) {
                    tally[h]++;
                }
            }
        }
    }

    private void clearTally() {
        for (int h = 0; h < MOST_HOPS; h++) {
            tally[h] = 0;
        }
    }

    public int most(int node, int circuit, int what, int n) {
        if (!isNode(node) || !isCircuit(circuit) || outside(what, 0, 3) || outside(n, 0, FAR)) {
            return NONE;
        }
        if (what >= 2 && node == 0) {
            return NONE;
        }
        apart.copy(now);
        int most = apart.crowd(node, circuit, what);
        for (int i = 0; i < n; i++) {
            apart.step();
            most = Math.max(most, apart.crowd(node, circuit, what));
        }
        return most;
    }

    public int healed() {
        if (!laid) {
            return NONE;
        }
        apart.copy(now);
        for (int n = 0; n < FAR; n++) {
            if (apart.unknown() == 0) {
                return n;
            }
            apart.restingStep();
        }
        return apart.unknown() == 0 ? FAR : NONE;
    }

    public int loss(int updates, int n) {
        if (!laid || outside(updates, 1, 9) || outside(n, 1, FAR)) {
            return HIDDEN;
        }
        goApart(n);
        return deliveredApart() - deliveredJammed(updates, n);
    }

    private int deliveredJammed(int updates, int n) {
        apart.copy(now);
        for (int h = 0; h < apart.hops; h++) {
            apart.links[h].jammed = updates;
        }
        apart.steps(n);
        return deliveredApart();
    }

    public int fair(int n) {
        if (!laid || outside(n, 1, FAR)) {
            return NONE;
        }
        goApart(n);
        int most = deliveredApartOf(0);
        int fewest = most;
        for (int c = 1; c < now.circuits; c++) {
            int cells = deliveredApartOf(c);
            most = Math.max(most, cells);
            fewest = Math.min(fewest, cells);
        }
        return most - fewest;
    }

    public int learns(int hop, int circuit) {
        if (!isLane(hop, circuit)) {
            return NONE;
        }
        int aimed = now.links[hop].lanes[circuit].gone;
        apart.copy(now);
        Lane lane = apart.links[hop].lanes[circuit];
        for (int n = 0; n < FAR; n++) {
            if (reaches(lane.known, aimed)) {
                return n;
            }
            apart.step();
        }
        return reaches(lane.known, aimed) ? FAR : NONE;
    }

    private static boolean reaches(int counter, int aimed) {
        return ((counter - aimed) & COUNTER_MASK) < COUNTER_HALF;
    }

    public boolean stuck() {
        if (!laid || now.cellsOfAll() == 0) {
            return false;
        }
        apart.copy(now);
        for (int i = 0; i < FAR; i++) {
            apart.step();
            if (apart.movedNow()) {
                return false;
            }
        }
        return true;
    }

    public int would(int hop, int circuit, int cells, int n) {
        if (zoneRefusal(hop, circuit, cells) != NONE || outside(n, 0, FAR)) {
            return NONE;
        }
        return deliveredByZone(hop, circuit, cells, n);
    }

    private int deliveredByZone(int hop, int circuit, int cells, int n) {
        apart.copy(now);
        apart.links[hop].lanes[circuit].zone = cells;
        apart.steps(n);
        return deliveredApart();
    }

    public int bestZone(int hop, int circuit, int n) {
        if (!isLane(hop, circuit) || outside(n, 1, 60)) {
            return NONE;
        }
        int largest = largestZone(hop, circuit);
        int best = NONE;
        int mostDelivered = NONE;
        for (int cells = now.reserve; cells <= largest; cells++) {
            int cellsDelivered = deliveredByZone(hop, circuit, cells, n);
            if (cellsDelivered > mostDelivered) {
                mostDelivered = cellsDelivered;
                best = cells;
            }
        }
        return best;
    }

    public int bears(int n) {
        if (!laid || outside(n, 1, FAR)) {
            return NONE;
        }
        goApart(n);
        int asItIs = deliveredApart();
        for (int updates = 9; updates >= 1; updates--) {
            if (deliveredJammed(updates, n) >= asItIs) {
                return updates;
            }
        }
        return 0;
    }

    public int waits(int hop, int circuit, int n) {
        if (!isLane(hop, circuit) || outside(n, 1, FAR)) {
            return NONE;
        }
        tallyWaits(circuit, n);
        return tally[hop];
    }

    private void tallyWaits(int circuit, int n) {
        clearTally();
        apart.copy(now);
        for (int i = 0; i < n; i++) {
            apart.step();
            for (int h = 0; h < apart.hops; h++) {
                if (apart.lacksCredit(h, circuit)) {
                    tally[h]++;
                }
            }
        }
    }

    public int worst(int circuit, int n) {
        if (!isCircuit(circuit) || outside(n, 1, FAR)) {
            return NONE;
        }
        tallyWaits(circuit, n);
        int worst = NONE;
        int most = 0;
        for (int h = 0; h < now.hops; h++) {
            if (tally[h] > most) {
                most = tally[h];
                worst = h;
            }
        }
        return worst;
    }

    public int busiest(int n) {
        if (!laid || outside(n, 1, FAR)) {
            return NONE;
        }
        tallyIdle(n);
        int busiest = 0;
        for (int h = 1; h < now.hops; h++) {
            if (tally[h] < tally[busiest]) {
                busiest = h;
            }
        }
        return busiest;
    }

    // ---- a link alone, and the law

    public int alone(int delay, int every, int zone, int takes, int n) {
        if (outside(zone, 1, LARGEST_POOL) || isNoLink(delay, every, takes, n)) {
            return NONE;
        }
        return sentAlone(delay, every, zone, takes, n);
    }

    private static boolean isNoLink(int delay, int every, int takes, int n) {
        return outside(delay, 1, 4) || outside(every, 1, 4) || outside(takes, 1, 9) || outside(n, 1, FAR);
    }

    private int sentAlone(int delay, int every, int zone, int takes, int n) {
        apart.layAlone(delay, every, zone, takes);
        apart.steps(n);
        return apart.links[0].lanes[0].sinceAdapt;
    }

    public int full(int delay, int every, int takes, int n) {
        if (isNoLink(delay, every, takes, n)) {
            return NONE;
        }
        int enough = sentAlone(delay, every, LARGEST_POOL, takes, n);
        for (int zone = 1; zone < LARGEST_POOL; zone++) {
            if (sentAlone(delay, every, zone, takes, n) == enough) {
                return zone;
            }
        }
        return LARGEST_POOL;
    }

    public int law(int delay, int every, int gap) {
        if (outside(delay, 1, 4) || outside(every, 1, 4) || outside(gap, 1, 9)) {
            return NONE;
        }
        return (2 * delay + gap - 1) / gap + every - 1;
    }

    // ---- what ADAPT would do, TRIPS, counts

    public int aim(int hop, int circuit) {
        return isLane(hop, circuit) ? now.aimOf(now.links[hop], circuit) : NONE;
    }

    public int room(int hop, int circuit) {
        return isLane(hop, circuit) ? largestZone(hop, circuit) : NONE;
    }

    public int trip(int circuit, int what) {
        if (!isCircuit(circuit) || now.flows[circuit].delivered == 0) {
            return NONE;
        }
        switch (what) {
            case 0: return trips[circuit].latest;
            case 1: return trips[circuit].longest;
            case 2: return trips[circuit].total;
            default: return NONE;
        }
    }

    public int oldest(int circuit) {
        if (!isCircuit(circuit) || trips[circuit].underway == 0) {
            return NONE;
        }
        return now.tick - trips[circuit].firstBegun();
    }

    public int count(int what) {
        if (what == 0) {
            return tapeLength;
        }
        if (!laid) {
            return HIDDEN;
        }
        switch (what) {
            case 1: return now.cellsOfAll();
            case 2: return now.deliveredOfAll();
            case 3: return now.lost;
            case 4: return now.probesSent;
            case 5: return now.unknown();
            default: return HIDDEN;
        }
    }

    // ---- which ones there are

    private static boolean outside(int number, int low, int high) {
        return number < low || number > high;
    }

    private boolean isHop(int hop) {
        return laid && hop >= 0 && hop < now.hops;
    }

    private boolean isCircuit(int circuit) {
        return laid && circuit >= 0 && circuit < now.circuits;
    }

    private boolean isLane(int hop, int circuit) {
        return isHop(hop) && isCircuit(circuit);
    }

    private boolean isNode(int node) {
        return laid && node >= 0 && node <= now.hops;
    }

    /** Reads a TEXT: where it is at fault, or what its clauses say. */
    private static final class Reading {
        private static final int RULES = 0;
        private static final int HOP = 1;
        private static final int CIRCUIT = 2;
        private static final int ITEMS = 3;
        private static final int CLAUSES = 1 + MOST_HOPS + MOST_CIRCUITS;

        private static final String LETTERS = "rapdbegst";
        private static final int[] LOWS = {1, 0, 0, 1, 1, 1, 0, 0, 0};
        private static final int[] HIGHS = {4, 20, 9, 4, 30, 4, 9, 20, 9};
        private static final int[] USUAL = {1, 0, 0, 1, 12, 1, 1, 0, 1};

        private int[] text = new int[0];
        private int length;
        private int at;
        private int fault;
        private int hopsTold;
        private int circuitsTold;
        private final int[] values = new int[CLAUSES * ITEMS];

        int faultOf(int[] signs, int signsLength) {
            text = signs;
            length = Math.min(signsLength, signs.length);
            at = 0;
            fault = NONE;
            hopsTold = 0;
            circuitsTold = 0;
            setUsual();
            boolean more = true;
            for (int clause = 0; more && clause <= length; clause++) {
                readClause(clause == 0);
                more = fault == NONE && at < length;
                at++;
            }
            return fault;
        }

        private void setUsual() {
            for (int clause = 0; clause < CLAUSES; clause++) {
                for (int item = 0; item < ITEMS; item++) {
                    values[clause * ITEMS + item] = USUAL[kindOf(clause) * ITEMS + item];
                }
            }
        }

        private static int kindOf(int clause) {
            if (clause == 0) {
                return RULES;
            }
            return clause <= MOST_HOPS ? HOP : CIRCUIT;
        }

        /** Stops at the ; behind the clause, at the end of the text, or at a fault. */
        private void readClause(boolean first) {
            int clause = readHead(first);
            if (clause == NONE) {
                return;
            }
            int seen = 0;
            for (int items = 0; items <= ITEMS; items++) {
                passBlanks();
                if (at >= length || text[at] == ';') {
                    return;
                }
                int item = itemOf(kindOf(clause), text[at]);
                if (item == NONE || (seen & (1 << item)) != 0) {
                    fault = at;
                    return;
                }
                seen |= 1 << item;
                at++;
                readNumber(clause, item);
                if (fault != NONE) {
                    return;
                }
            }
        }

        private int readHead(boolean first) {
            passBlanks();
            int clause = NONE;
            if (at < length) {
                clause = clauseOf(text[at], first);
            }
            if (clause == NONE) {
                fault = at;
                return NONE;
            }
            at++;
            return clause;
        }

        private int clauseOf(int sign, boolean first) {
            if (sign == 'n' && first) {
                return 0;
            }
            if (sign == 'h' && hopsTold < MOST_HOPS) {
                hopsTold++;
                return hopsTold;
            }
            if (sign == 'c' && circuitsTold < MOST_CIRCUITS) {
                circuitsTold++;
                return MOST_HOPS + circuitsTold;
            }
            return NONE;
        }

        private static int itemOf(int kind, int sign) {
            for (int item = 0; item < ITEMS; item++) {
                if (LETTERS.charAt(kind * ITEMS + item) == sign) {
                    return item;
                }
            }
            return NONE;
        }

        /** A third digit is wrong itself, so bounds are looked at only behind the last digit. */
        private void readNumber(int clause, int item) {
            passBlanks();
            int number = 0;
            int digits = 0;
            while (digits < 2 && isDigitHere()) {
                number = number * 10 + text[at] - '0';
                digits++;
                at++;
            }
            if (digits == 0 || isDigitHere()) {
                fault = at;
                return;
            }
            int bound = kindOf(clause) * ITEMS + item;
            if (outside(number, LOWS[bound], HIGHS[bound])) {
                fault = at - 1;
                return;
            }
            values[clause * ITEMS + item] = number;
        }

        private boolean isDigitHere() {
            return at < length && text[at] >= '0' && text[at] <= '9';
        }

        private void passBlanks() {
            while (at < length && text[at] == ' ') {
                at++;
            }
        }

        int hops() {
            return Math.max(1, hopsTold);
        }

        int circuits() {
            return Math.max(1, circuitsTold);
        }

        int ofRules(int item) {
            return values[item];
        }

        int ofHop(int hop, int item) {
            return values[(1 + hop) * ITEMS + item];
        }

        int ofCircuit(int circuit, int item) {
            return values[(1 + MOST_HOPS + circuit) * ITEMS + item];
        }
    }

    /** Of a HOP and a CIRCUIT: the counters, modulo 64, and the ZONE. */
    private static final class Lane {
        int sent;
        int gone;
        int known;
        int zone;
        int waited;
        int sinceUpdate;
        int sinceAdapt;

        void lay(int cells) {
            sent = 0;
            gone = 0;
            known = 0;
            zone = cells;
            waited = 0;
            sinceUpdate = 0;
            sinceAdapt = 0;
        }

        void copy(Lane other) {
            sent = other.sent;
            gone = other.gone;
            known = other.known;
            zone = other.zone;
            waited = other.waited;
            sinceUpdate = other.sinceUpdate;
            sinceAdapt = other.sinceAdapt;
        }

        int out() {
            return (sent - known) & COUNTER_MASK;
        }

        int credit() {
            return Math.max(0, zone - out());
        }

        void hear(int told) {
            if (reaches(told, known)) {
                known = told;
            }
        }
    }

    /** A HOP, with what is on it, by the TICK (modulo SLOTS) in which it comes. */
    private static final class Link {
        int delay;
        int pool;
        int every;
        int jammed;
        int latest;
        int sender;
        final int[] cellAt = new int[SLOTS];
        final int[] updateAt = new int[SLOTS * MOST_CIRCUITS];
        final int[] probesAt = new int[SLOTS * MOST_CIRCUITS];
        final Lane[] lanes = new Lane[MOST_CIRCUITS];

        Link() {
            for (int c = 0; c < MOST_CIRCUITS; c++) {
                lanes[c] = new Lane();
            }
        }

        void lay(int newDelay, int newPool, int newEvery, int cells) {
            delay = newDelay;
            pool = newPool;
            every = newEvery;
            jammed = 0;
            latest = NONE;
            sender = NONE;
            for (int slot = 0; slot < SLOTS; slot++) {
                clearSlot(slot);
            }
            for (int c = 0; c < MOST_CIRCUITS; c++) {
                lanes[c].lay(cells);
            }
        }

        void clearSlot(int slot) {
            cellAt[slot] = NONE;
            for (int c = 0; c < MOST_CIRCUITS; c++) {
                updateAt[slot * MOST_CIRCUITS + c] = NONE;
                probesAt[slot * MOST_CIRCUITS + c] = 0;
            }
        }

        void copy(Link other) {
            delay = other.delay;
            pool = other.pool;
            every = other.every;
            jammed = other.jammed;
            latest = other.latest;
            sender = other.sender;
            System.arraycopy(other.cellAt, 0, cellAt, 0, SLOTS);
            System.arraycopy(other.updateAt, 0, updateAt, 0, SLOTS * MOST_CIRCUITS);
            System.arraycopy(other.probesAt, 0, probesAt, 0, SLOTS * MOST_CIRCUITS);
            for (int c = 0; c < MOST_CIRCUITS; c++) {
                lanes[c].copy(other.lanes[c]);
            }
        }

        int cellsOn() {
            int cells = 0;
            for (int slot = 0; slot < SLOTS; slot++) {
                if (cellAt[slot] != NONE) {
                    cells++;
                }
            }
            return cells;
        }

        int cellsOnOf(int circuit) {
            int cells = 0;
            for (int slot = 0; slot < SLOTS; slot++) {
                if (cellAt[slot] == circuit) {
                    cells++;
                }
            }
            return cells;
        }

        int updatesOn() {
            int updates = 0;
            for (int i = 0; i < SLOTS * MOST_CIRCUITS; i++) {
                if (updateAt[i] != NONE) {
                    updates++;
                }
            }
            return updates;
        }

        int probesOn() {
            int probes = 0;
            for (int i = 0; i < SLOTS * MOST_CIRCUITS; i++) {
                probes += probesAt[i];
            }
            return probes;
        }

        int probeBits(int slot) {
            int bits = 0;
            for (int c = 0; c < MOST_CIRCUITS; c++) {
                if (probesAt[slot * MOST_CIRCUITS + c] > 0) {
                    bits |= 1 << c;
                }
            }
            return bits;
        }

        /** A ZONE that shrank below what is OUT still holds that much of the POOL. */
        int roomFor(int circuit, int circuits) {
            int left = pool;
            for (int c = 0; c < circuits; c++) {
                if (c != circuit) {
                    left -= Math.max(lanes[c].zone, lanes[c].out());
                }
            }
            return left;
        }
    }

    /** A CIRCUIT: its SOURCE, its sink, and what went through them. */
    private static final class Flow {
        int gap;
        int start;
        int takes;
        int came;
        int spilt;
        int delivered;
        boolean cameNow;
        boolean deliveredNow;

        void lay(int newGap, int newStart, int newTakes) {
            gap = newGap;
            start = newStart;
            takes = newTakes;
            came = 0;
            spilt = 0;
            delivered = 0;
            cameNow = false;
            deliveredNow = false;
        }

        void copy(Flow other) {
            gap = other.gap;
            start = other.start;
            takes = other.takes;
            came = other.came;
            spilt = other.spilt;
            delivered = other.delivered;
            cameNow = other.cameNow;
            deliveredNow = other.deliveredNow;
        }

        boolean comesIn(int tick) {
            return gap > 0 && tick >= start && (tick - start) % gap == 0;
        }

        boolean takesIn(int tick) {
            return takes > 0 && tick % takes == 0;
        }
    }

    /** When the cells of a CIRCUIT that are underway came; they keep their order. */
    private static final class Trips {
        /** A power of two above the 99 of a SOURCE and three full POOLS of 30. */
        private static final int RING = 256;

        private final int[] begun = new int[RING];
        private int first;
        int underway;
        int latest;
        int longest;
        int total;

        void clear() {
            first = 0;
            underway = 0;
            latest = 0;
            longest = 0;
            total = 0;
        }

        void begin(int tick) {
            begun[(first + underway) & (RING - 1)] = tick;
            underway++;
        }

        int firstBegun() {
            return begun[first & (RING - 1)];
        }

        void finish(int tick) {
            latest = tick - firstBegun();
            longest = Math.max(longest, latest);
            total += latest;
            first = (first + 1) & (RING - 1);
            underway--;
        }
    }

    /** The NET as it stands behind some TICK, and what a TICK does. */
    private static final class Net {
        int hops;
        int circuits;
        int reserve;
        int adapts;
        int probes;
        int tick;
        int lost;
        int probesSent;
        final Link[] links = new Link[MOST_HOPS];
        final Flow[] flows = new Flow[MOST_CIRCUITS];
        private final int[] buffers = new int[(MOST_HOPS + 1) * MOST_CIRCUITS];

        Net() {
            for (int h = 0; h < MOST_HOPS; h++) {
                links[h] = new Link();
            }
            for (int c = 0; c < MOST_CIRCUITS; c++) {
                flows[c] = new Flow();
            }
        }

        void lay(Reading text) {
            layRules(text.hops(), text.circuits(), text.ofRules(0));
            adapts = text.ofRules(1);
            probes = text.ofRules(2);
            for (int h = 0; h < hops; h++) {
                int pool = Math.max(text.ofHop(h, 1), reserve * circuits);
                int share = circuits > 0 ? pool / circuits : pool;
                links[h].lay(text.ofHop(h, 0), pool, text.ofHop(h, 2), share);
            }
            for (int c = 0; c < circuits; c++) {
                flows[c].lay(text.ofCircuit(c, 0), text.ofCircuit(c, 1), text.ofCircuit(c, 2));
            }
        }

        /** One HOP whose SOURCE holds more cells than 200 TICKS can send. */
        void layAlone(int delay, int every, int zone, int takes) {
            layRules(1, 1, 1);
            links[0].lay(delay, LARGEST_POOL, every, zone);
            flows[0].lay(0, 0, takes);
            buffers[0] = FAR + 1;
        }

        private void layRules(int newHops, int newCircuits, int newReserve) {
            hops = newHops;
            circuits = newCircuits;
            reserve = newReserve;
            adapts = 0;
            probes = 0;
            tick = 0;
            lost = 0;
            probesSent = 0;
            for (int i = 0; i < buffers.length; i++) {
                buffers[i] = 0;
            }
        }

        void copy(Net other) {
            hops = other.hops;
            circuits = other.circuits;
            reserve = other.reserve;
            adapts = other.adapts;
            probes = other.probes;
            tick = other.tick;
            lost = other.lost;
            probesSent = other.probesSent;
            for (int h = 0; h < hops; h++) {
                links[h].copy(other.links[h]);
            }
            for (int c = 0; c < circuits; c++) {
                flows[c].copy(other.flows[c]);
            }
            System.arraycopy(other.buffers, 0, buffers, 0, buffers.length);
        }

        // ---- a TICK

        void steps(int n) {
            for (int i = 0; i < n; i++) {
                step();
            }
        }

        void step() {
            for (int h = 0; h < hops; h++) {
                arriveOver(h);
            }
            for (int c = 0; c < circuits; c++) {
                come(c);
            }
            for (int c = 0; c < circuits; c++) {
                take(c);
            }
            for (int h = hops - 1; h >= 0; h--) {
                sendOver(h);
                waitAt(h);
            }
            if (adapts > 0 && (tick + 1) % adapts == 0) {
                for (int h = 0; h < hops; h++) {
                    adapt(links[h]);
                }
            }
            tick++;
        }

        /** A TICK in which no cell comes, is taken or goes on; what is underway still comes. */
        void restingStep() {
            for (int h = 0; h < hops; h++) {
                arriveOver(h);
            }
            for (int h = hops - 1; h >= 0; h--) {
                waitAt(h);
            }
            tick++;
        }

        private void arriveOver(int h) {
            Link link = links[h];
            int slot = tick % SLOTS;
            int cell = link.cellAt[slot];
            if (cell != NONE) {
                buffers[(h + 1) * MOST_CIRCUITS + cell]++;
            }
            for (int c = 0; c < circuits; c++) {
                int told = link.updateAt[slot * MOST_CIRCUITS + c];
                if (told != NONE) {
                    link.lanes[c].hear(told);
                }
                int asked = link.probesAt[slot * MOST_CIRCUITS + c];
                for (int i = 0; i < asked; i++) {
                    sendUpdate(link, c);
                }
            }
            link.clearSlot(slot);
        }

        private void come(int c) {
            Flow flow = flows[c];
            flow.cameNow = false;
            if (!flow.comesIn(tick)) {
                return;
            }
            flow.came++;
            if (buffers[c] >= SOURCE_ROOM) {
                flow.spilt++;
                return;
            }
            buffers[c]++;
            flow.cameNow = true;
        }

        private void take(int c) {
            Flow flow = flows[c];
            int last = hops * MOST_CIRCUITS + c;
            flow.deliveredNow = flow.takesIn(tick) && buffers[last] > 0;
            if (flow.deliveredNow) {
                buffers[last]--;
                flow.delivered++;
                goneFrom(hops - 1, c);
            }
        }

        private void sendOver(int h) {
            Link link = links[h];
            int c = nextSender(h);
            link.sender = c;
            if (c == NONE) {
                return;
            }
            link.latest = c;
            link.cellAt[(tick + link.delay) % SLOTS] = c;
            buffers[h * MOST_CIRCUITS + c]--;
            Lane lane = link.lanes[c];
            lane.sent = (lane.sent + 1) & COUNTER_MASK;
            lane.sinceAdapt++;
            if (h > 0) {
                goneFrom(h - 1, c);
            }
        }

        private int nextSender(int h) {
            Link link = links[h];
            for (int turn = 1; turn <= circuits; turn++) {
                int c = (link.latest + turn) % circuits;
                Lane lane = link.lanes[c];
                if (buffers[h * MOST_CIRCUITS + c] > 0 && lane.out() < lane.zone) {
                    return c;
                }
            }
            return NONE;
        }

        private void goneFrom(int h, int c) {
            Link link = links[h];
            Lane lane = link.lanes[c];
            lane.gone = (lane.gone + 1) & COUNTER_MASK;
            lane.sinceUpdate++;
            if (lane.sinceUpdate >= link.every) {
                lane.sinceUpdate = 0;
                sendUpdate(link, c);
            }
        }

        private void sendUpdate(Link link, int c) {
            if (link.jammed > 0) {
                link.jammed--;
                lost++;
                return;
            }
            link.updateAt[(tick + link.delay) % SLOTS * MOST_CIRCUITS + c] = link.lanes[c].gone;
        }

        void sendProbe(Link link, int c) {
            link.probesAt[(tick + link.delay) % SLOTS * MOST_CIRCUITS + c]++;
            link.lanes[c].waited = 0;
            probesSent++;
        }

        private void waitAt(int h) {
            for (int c = 0; c < circuits; c++) {
                Lane lane = links[h].lanes[c];
                lane.waited = lacksCredit(h, c) ? lane.waited + 1 : 0;
                if (probes > 0 && lane.waited >= probes) {
                    sendProbe(links[h], c);
                }
            }
        }

        /** All that shrink do so first, so that the others grow into room that is free. */
        private void adapt(Link link) {
            for (int c = 0; c < circuits; c++) {
                Lane lane = link.lanes[c];
                lane.zone = Math.min(lane.zone, aimOf(link, c));
            }
            for (int c = 0; c < circuits; c++) {
                Lane lane = link.lanes[c];
                int grown = Math.min(aimOf(link, c), link.roomFor(c, circuits));
                lane.zone = Math.max(lane.zone, grown);
            }
            for (int c = 0; c < circuits; c++) {
                link.lanes[c].sinceAdapt = 0;
            }
        }

        int aimOf(Link link, int circuit) {
            int sentByAll = 0;
            for (int c = 0; c < circuits; c++) {
                sentByAll += link.lanes[c].sinceAdapt;
            }
            int spare = link.pool - reserve * circuits;
            if (sentByAll > 0) {
                return reserve + spare * link.lanes[circuit].sinceAdapt / sentByAll;
            }
            return circuits > 0 ? reserve + spare / circuits : reserve;
        }

        // ---- what is told of it

        int waitingAt(int node, int circuit) {
            return buffers[node * MOST_CIRCUITS + circuit];
        }

        boolean lacksCredit(int h, int c) {
            return buffers[h * MOST_CIRCUITS + c] > 0 && links[h].lanes[c].out() >= links[h].lanes[c].zone;
        }

        /** What: as of most(). */
        int crowd(int node, int circuit, int what) {
            boolean ofOne = what == 0 || what == 3;
            boolean withHop = what >= 2 && node > 0;
            int cells = 0;
            for (int c = 0; c < circuits; c++) {
                if (!ofOne || c == circuit) {
                    cells += waitingAt(node, c);
                    if (withHop) {
                        cells += links[node - 1].cellsOnOf(c);
                    }
                }
            }
            return cells;
        }

        int cellsOf(int circuit) {
            int cells = 0;
            for (int node = 0; node <= hops; node++) {
                cells += waitingAt(node, circuit);
            }
            for (int h = 0; h < hops; h++) {
                cells += links[h].cellsOnOf(circuit);
            }
            return cells;
        }

        int cellsOfAll() {
            int cells = 0;
            for (int c = 0; c < circuits; c++) {
                cells += cellsOf(c);
            }
            return cells;
        }

        int deliveredOfAll() {
            int cells = 0;
            for (int c = 0; c < circuits; c++) {
                cells += flows[c].delivered;
            }
            return cells;
        }

        int unknown() {
            int lanes = 0;
            for (int h = 0; h < hops; h++) {
                for (int c = 0; c < circuits; c++) {
                    Lane lane = links[h].lanes[c];
                    if (lane.known != lane.gone) {
                        lanes++;
                    }
                }
            }
            return lanes;
        }

        boolean movedNow() {
            for (int h = 0; h < hops; h++) {
                if (links[h].sender != NONE) {
                    return true;
                }
            }
            for (int c = 0; c < circuits; c++) {
                if (flows[c].deliveredNow) {
                    return true;
                }
            }
            return false;
        }
    }
}
