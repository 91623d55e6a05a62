/** The edges of promises 19 to 43: the first and the last TICK that a look ahead counts, and which of several it tells. */
public final class AheadEdgesTest extends Due {
    private static final String BUSY = "na11p4;hd2b7e2;hd3b9;cg2t3;c;cg3t2";

    // ---- AHEAD

    private static void noTicksAndTwoHundred() {
        about("AHEAD for n TICKS (0 .. 200): what is told of it then");
        for (int n : new int[] {0, 1, 199, 200}) {
            HopCredits now = net(BUSY, 13);
            HopCredits then = net(BUSY, 13 + n);
            for (int c = 0; c < 3; c++) {
                for (int h = 0; h < 2; h++) {
                    for (int what = 0; what < 10; what++) {
                        due("laneAhead in " + n, now.laneAhead(h, c, what, n), then.lane(h, c, what));
                    }
                }
                for (int node = 0; node < 3; node++) {
                    due("bufferAhead in " + n, now.bufferAhead(node, c, n), then.buffer(node, c));
                }
                int cells = then.circuit(c, 5) - now.circuit(c, 5);
                due("delivered in " + n, now.delivered(c, n), cells);
            }
            due("delivered of all in " + n, now.delivered(NONE, n), then.count(2) - now.count(2));
        }
    }

    private static void countersAhead() {
        about("AHEAD: SENT, GONE, KNOWN modulo 64");
        HopCredits x = net("h");
        due("SENT in 63", x.laneAhead(0, 0, 0, 63), 63);
        due("SENT in 64", x.laneAhead(0, 0, 0, 64), 0);
        due("GONE in 64", x.laneAhead(0, 0, 1, 64), 63);
        due("GONE in 65", x.laneAhead(0, 0, 1, 65), 0);
        due("KNOWN in 65", x.laneAhead(0, 0, 2, 65), 63);
        due("KNOWN in 66", x.laneAhead(0, 0, 2, 66), 0);
        due("OUT in 65", x.laneAhead(0, 0, 4, 65), 2);
    }

    private static void deliveredOfAll() {
        about("delivered: of a CIRCUIT (NONE: of all)");
        HopCredits x = net("c;c;c", 40);
        due("of all", x.delivered(NONE, 30), 30);
        for (int c = 0; c < 3; c++) {
            due("of " + c, x.delivered(c, 30), 10);
        }
        due("of -2", x.delivered(-2, 30), NONE);
        due("of 3", x.delivered(3, 30), NONE);
        due("in none", x.delivered(NONE, 0), 0);
        due("in one", x.delivered(NONE, 1), 1);
    }

    // ---- HELD UP, IDLE, MOST

    private static void heldUp() {
        about("HELD UP: in how many TICKS (1 .. 200) it sends over it next");
        due("1: in the one to come", net("h").heldUp(0, 0), 1);
        HopCredits late = net("cg0", 7);
        late.source(0, 1, 7 + 199);
        due("in 200", late.heldUp(0, 0), 200);
        late.source(0, 1, 7 + 200);
        due("in 201", late.heldUp(0, 0), NONE);
        due("its latest one was a TICK ago", net("hd2b1", 1).heldUp(0, 0), 4);
        HopCredits turns = net("c;c", 1);
        due("it sent just now", turns.heldUp(0, 0), 2);
        due("it is its turn", turns.heldUp(0, 1), 1);
        due("over HOP 2", net("hd4;hd4;hd4").heldUp(2, 0), 9);
    }

    private static void idle() {
        about("IDLE: in how many of these nothing is sent over it");
        // with a ZONE of 1 it sends in each second TICK
        HopCredits x = net("hb1");
        int[] want = {0, 1, 1, 2, 2};
        for (int n = 1; n <= 5; n++) {
            due("idle in " + n, x.idle(0, n), want[n - 1]);
        }
        due("idle in 200", x.idle(0, 200), 100);
        x.go(1);
        due("idle in the one to come", x.idle(0, 1), 1);
        due("never", net("h").idle(0, 200), 0);
        due("always", net("cg0").idle(0, 200), 200);
        due("HOP 1 until a cell comes", net("hd4;h").idle(1, 200), 4);
    }

    private static void mostBehindAnyAndNow() {
        about("MOST: behind any of n TICKS, and now");
        // two CIRCUITS in turns, nothing is taken: behind n TICKS n are sent, n less 3 came, until 12 are OUT
        HopCredits x = net("hd3b12;ct0;ct0");
        for (int n = 0; n <= 16; n++) {
            int sent = Math.min(n, 12);
            int there = Math.min(Math.max(n - 3, 0), 12);
            due("0 in " + n, x.most(1, 0, 0, n), (there + 1) / 2);
            due("0 of CIRCUIT 1 in " + n, x.most(1, 1, 0, n), there / 2);
            due("1 in " + n, x.most(1, 1, 1, n), there);
            due("2 in " + n, x.most(1, 1, 2, n), sent);
            due("3 in " + n, x.most(1, 0, 3, n), (sent + 1) / 2);
            due("3 of CIRCUIT 1 in " + n, x.most(1, 1, 3, n), sent / 2);
        }
        due("in 200", x.most(1, 0, 2, 200), 12);
        due("the SOURCES in 200", x.most(0, 0, 1, 200), 2 * 99);
        due("a SOURCE in 200", x.most(0, 1, 0, 200), 99);
        HopCredits y = net("hd3b12;ct0;ct0", 30);
        for (int c = 0; c < 2; c++) {
            y.source(c, 0, 0);
            y.takes(c, 1);
            y.zone(0, c, 1);
        }
        due("now is most", y.most(1, 0, 1, 200), 12);
        due("now is most", y.most(1, 0, 0, 0), 6);
        y.go(1);
        due("both were taken", y.most(1, 0, 1, 0), 10);
    }

    private static void mostOfNodeZero() {
        about("most: the HOP that ends there (NODE 1 on)");
        HopCredits x = net("h;h;h", 9);
        for (int what = 0; what <= 3; what++) {
            due("NODE 0, what " + what, x.most(0, 0, what, 0), what < 2 ? 0 : NONE);
            due("NODE 1, what " + what, x.most(1, 0, what, 0), what < 2 ? 0 : 1);
            due("NODE 3, what " + what, x.most(3, 0, what, 0), what < 2 ? 0 : 1);
            due("NODE 4, what " + what, x.most(4, 0, what, 0), NONE);
        }
    }

    // ---- HEALED, LEARNS

    private static void healed() {
        about("HEALED: in how many TICKS (0 .. 200) KNOWN is GONE of all, were no cell to go on any more");
        due("now", net("h").healed(), 0);
        due("of HOP 0; the cell on HOP 1 is not taken", net("hd1;hd4;cg9", 2).healed(), 1);
        due("nothing to tell", net("hd1;hd4;cg9", 3).healed(), 0);
        due("of HOP 1", net("hd1;hd4;cg9", 6).healed(), 4);
        due("of HOP 1, in the one to come", net("hd1;hd4;cg9", 9).healed(), 1);
        due("nothing to tell", net("hd1;hd4;cg9", 10).healed(), 0);
        // circuit 0 sends in 0, 2 and so on, circuit 1 in 1, 3: the latest update counts
        due("the latest of all", net("hd4;c;c", 6).healed(), 4);
        HopCredits none = net("np3;hb1;cg9");
        none.jam(0, 1);
        none.go(3);
        due("no cell waits, and none comes", none.healed(), NONE);
        due("but as it goes on one comes", none.learns(0, 0) > 0, true);
    }

    private static void healedLate() {
        about("HEALED: of what SEND does with those that WAITED");
        HopCredits x = net("np9;hd4b1");
        x.jam(0, 1);
        x.go(5);
        due("WAITED 4, a probe in TICK 9, its answer comes in 17", x.healed(), 13);
        for (int lost = 1; lost <= 9; lost++) {
            x.jam(0, lost);
            due("with " + lost + " answers lost, each 9 TICKS", x.healed(), 13 + 9 * lost);
        }
        x.jam(0, 0);
        x.go(4);
        due("WAITED 8: a probe in the one to come", x.healed(), 9);
        // its four cells are told of by none; a ZONE of 7, as ADAPT would lay it in TICK 19, would end its waiting
        HopCredits adapts = net("na20p9;hb8;cs11;cg0");
        adapts.jam(0, 4);
        adapts.go(16);
        due("WAITED 1, and no ADAPT: a probe in TICK 23", adapts.healed(), 10);
        HopCredits never = net("hd4b1");
        never.jam(0, 1);
        never.go(5);
        due("without PROBES", never.healed(), NONE);
        due("without PROBES", never.learns(0, 0), NONE);
    }

    private static void learns() {
        about("LEARNS: in how many TICKS (0 .. 200) KNOWN is what GONE is now");
        due("now", net("h").learns(0, 0), 0);
        due("in the one to come", net("h", 2).learns(0, 0), 1);
        // the next cell comes in TICK s, its update, the second, in s and 2
        HopCredits x = net("he2;cg9", 2);
        due("KNOWN", x.lane(0, 0, 2), 0);
        due("GONE", x.lane(0, 0, 1), 1);
        x.source(0, 9, 199);
        due("in 200", x.learns(0, 0), 200);
        x.source(0, 9, 200);
        due("in 201", x.learns(0, 0), NONE);
        about("LEARNS: or further (by less than 32, modulo 64)");
        HopCredits far = net("hb30e3", 2);
        far.jam(0, 9);
        // updates of 3, 6 .. 27 are lost; 30 are GONE in TICK 30, told in 31
        due("29 further", far.learns(0, 0), 30);
        far.go(29);
        due("KNOWN as yet", far.lane(0, 0, 2), 0);
        far.go(1);
        due("KNOWN", far.lane(0, 0, 2), 30);
        HopCredits beyond = net("he4", 63);
        due("GONE", beyond.lane(0, 0, 1), 62);
        due("KNOWN", beyond.lane(0, 0, 2), 60);
        due("KNOWN is 0 in TICK 65", beyond.learns(0, 0), 3);
        due("KNOWN then", beyond.laneAhead(0, 0, 2, 3), 0);
    }

    // ---- LOSS, BEARS, FAIR

    private static void loss() {
        about("LOSS: were each HOP JAMMED for n updates now");
        // a ZONE of 3 bears one; two cost a TICK, three all that is behind
        HopCredits x = net("hb3");
        due("one", x.loss(1, 20), 0);
        due("two", x.loss(2, 20), 1);
        due("three", x.loss(3, 20), 19 - 3);
        due("nine", x.loss(9, 20), 19 - 3);
        due("in one TICK", x.loss(9, 1), 0);
        due("in 200", x.loss(9, 200), 199 - 3);
        x.jam(0, 2);
        due("one less than now", x.loss(1, 20), -1);
        due("as now", x.loss(2, 20), 0);
        due("one more", x.loss(3, 20), 18 - 3);
        due("the last HOP, too", net("h;hb3").loss(3, 21), 19 - 3);
        due("the last CIRCUIT, too", net("hb6;cg0;c").loss(3, 20), 19 - 3);
        due("all CIRCUITS", net("hb6;c;c").loss(9, 20), 19 - 6);
    }

    private static void bears() {
        about("BEARS: the most updates (0 .. 9) so that no fewer are DELIVERED (0, if by none of 1 .. 9)");
        for (int zone = 2; zone <= 12; zone++) {
            due("a ZONE of " + zone, net("hb" + zone).bears(60), Math.min(zone - 2, 9));
        }
        due("all HOPS", net("h;hb5").bears(60), 3);
        due("in one TICK none could be fewer", net("hb1").bears(1), 9);
        due("in three TICKS none could be fewer", net("hb1").bears(3), 9);
        due("in four the second is not there", net("hb1").bears(4), 0);
        HopCredits x = net("hb5");
        x.jam(0, 9);
        due("as it is all is lost already", x.bears(200), 9);
    }

    private static void fair() {
        about("FAIR: of CIRCUITS the most DELIVERED of one, less the fewest");
        due("one alone", net("h").fair(200), 0);
        HopCredits x = net("cg9;cg3;c");
        // cells of TICKS 0, 9, .. ; 0, 3, .. ; the rest
        int[] cells = {x.delivered(0, 28), x.delivered(1, 28), x.delivered(2, 28)};
        due("the most less the fewest", x.fair(28), cells[2] - cells[0]);
        due("one has none", net("cg0;c;cg2").fair(1), 0);
        due("one has none", net("cg0;c;cg0").fair(3), 2);
        due("the last has none", net("c;c;cg0").fair(3), 1);
        due("none has any", net("cg0;cg0").fair(200), 0);
    }

    // ---- ALONE, FULL, LAW

    private static void alone() {
        about("ALONE: cells SENT in n TICKS");
        HopCredits x = null;
        for (int delay = 1; delay <= 4; delay++) {
            for (int zone = 1; zone <= 30; zone++) {
                x = new HopCredits();
                for (int n : new int[] {1, 2, 7, 8, 9, 31, 64, 65, 199, 200}) {
                    int trip = 2 * delay;
                    int sent = zone >= trip ? n : n / trip * zone + Math.min(zone, n % trip);
                    due("DELAY " + delay + ", ZONE " + zone + ", n " + n, x.alone(delay, 1, zone, 1, n), sent);
                }
            }
        }
        for (int every = 2; every <= 4; every++) {
            x = new HopCredits();
            due("a ZONE below EVERY " + every, x.alone(1, every, every - 1, 1, 200), every - 1);
            due("a ZONE of EVERY", x.alone(1, every, every, 1, 200) > 90, true);
        }
        x = new HopCredits();
        // it sends in TICKS 0, 3, 5, 7
        int[] want = {1, 1, 1, 2, 2, 3, 3, 4};
        for (int n = 1; n <= 8; n++) {
            due("TAKES 2, n " + n, x.alone(1, 1, 1, 2, n), want[n - 1]);
        }
        due("taken in 9, 18 .. 189, told a TICK behind", x.alone(1, 1, 30, 9, 199), 30 + 21);
        due("and in 198", x.alone(1, 1, 30, 9, 200), 30 + 22);
    }

    private static void aloneWhateverWasBefore() {
        about("ALONE: a link of a DELAY, EVERY, with one CIRCUIT (nothing of the NET counts)");
        for (String text : new String[] {BUSY, "na1p1;hb2;h;h;c;c;c", "np1;he4;ct0"}) {
            HopCredits x = net(text, 40);
            x.jam(0, 9);
            for (int ahead = 0; ahead <= 200; ahead += 50) {
                x.laneAhead(0, 0, 0, ahead);
                due("no PROBES", x.alone(1, 4, 3, 1, 200), 3);
                x.delivered(NONE, ahead);
                due("no ADAPT", x.alone(4, 1, 2, 1, 200), 50);
                x.heldUp(0, 0);
                due("FULL", x.full(3, 1, 1, 60), 6);
            }
        }
    }

    private static void full() {
        about("FULL: the least ZONE (1 .. 30) by which as many are SENT as by ZONE 30");
        for (int delay = 1; delay <= 4; delay++) {
            for (int every = 1; every <= 4; every++) {
                for (int takes : new int[] {1, 2, 9}) {
                    for (int n : new int[] {1, 30, 200}) {
                        fullOf(delay, every, takes, n);
                    }
                }
            }
        }
        HopCredits x = new HopCredits();
        due("one TICK", x.full(4, 4, 9, 1), 1);
        due("two TICKS", x.full(4, 4, 9, 2), 2);
        due("all 30", x.full(1, 1, 9, 200), 30);
        due("DELAY 4", x.full(4, 1, 1, 200), 8);
    }

    private static void fullOf(int delay, int every, int takes, int n) {
        HopCredits x = new HopCredits();
        int most = x.alone(delay, every, 30, takes, n);
        int least = 1;
        while (x.alone(delay, every, least, takes, n) < most) {
            least++;
        }
        due("full(" + delay + ", " + every + ", " + takes + ", " + n + ")", x.full(delay, every, takes, n), least);
    }

    private static void law() {
        about("LAW: 2 times DELAY by GAP, cut upwards, and EVERY less 1");
        int[][] parts = {{2, 1, 1, 1, 1, 1, 1, 1, 1}, {4, 2, 2, 1, 1, 1, 1, 1, 1}, {6, 3, 2, 2, 2, 1, 1, 1, 1},
            {8, 4, 3, 2, 2, 2, 2, 1, 1}};
        HopCredits x = new HopCredits();
        for (int delay = 1; delay <= 4; delay++) {
            for (int gap = 1; gap <= 9; gap++) {
                for (int every = 1; every <= 4; every++) {
                    due("law(" + delay + ", " + every + ", " + gap + ")", x.law(delay, every, gap),
                        parts[delay - 1][gap - 1] + every - 1);
                }
            }
        }
    }

    // ---- TRIP, OLDEST

    private static void trips() {
        about("trip NONE: none was DELIVERED");
        HopCredits x = net("h;h;c;cg0", 2);
        for (int what = 0; what <= 2; what++) {
            due("trip(0, " + what + ") as yet", x.trip(0, what), NONE);
        }
        x.go(1);
        for (int what = 0; what <= 2; what++) {
            due("trip(0, " + what + ") of the first", x.trip(0, what), 2);
            due("trip(1, " + what + ")", x.trip(1, what), NONE);
        }
        about("trip: latest (0), the longest so far (1), all so far added up (2)");
        // those of TICKS 0 to 4 are taken in 5, 6 .. 9 once TAKES is told anew
        HopCredits y = net("ct0", 5);
        y.takes(0, 1);
        y.source(0, 9, 14);
        y.go(5);
        due("latest", y.trip(0, 0), 5);
        due("longest", y.trip(0, 1), 5);
        due("all", y.trip(0, 2), 25);
        y.go(6);
        due("latest", y.trip(0, 0), 1);
        due("longest still", y.trip(0, 1), 5);
        due("all", y.trip(0, 2), 26);
    }

    private static void oldest() {
        about("oldest NONE: there is none");
        HopCredits x = net("cg5s2;c");
        due("at first", x.oldest(0), NONE);
        x.go(2);
        due("none as yet", x.oldest(0), NONE);
        due("of the other", x.oldest(1), 1);
        x.go(1);
        due("it came in the latest TICK", x.oldest(0), 1);
        HopCredits y = net("ct0g9", 9);
        due("it waits at the end", y.oldest(0), 9);
        y.takes(0, 1);
        y.source(0, 0, 0);
        y.go(1);
        due("it was DELIVERED", y.oldest(0), NONE);
    }

    // ---- STUCK

    private static void stuck() {
        about("STUCK: there are cells anywhere, and in 200 TICKS none is sent, none DELIVERED");
        due("no cells", net("cg0", 5).stuck(), false);
        HopCredits onIt = net("hd4;ct0g9", 1);
        onIt.source(0, 0, 0);
        due("a cell on the HOP alone", onIt.stuck(), true);
        onIt.go(9);
        due("a cell at the end alone", onIt.stuck(), true);
        onIt.takes(0, 9);
        due("it is DELIVERED", onIt.stuck(), false);
        HopCredits late = net("hb2;ct0;cg0", 9);
        due("stuck", late.stuck(), true);
        late.source(1, 1, 9 + 199);
        due("sent in the 200th", late.stuck(), false);
        late.source(1, 1, 9 + 200);
        due("sent in the 201st", late.stuck(), true);
        HopCredits none = net("cg0;cg0");
        none.source(0, 1, 100);
        due("cells come, but there are none now", none.stuck(), false);
        due("probes, answers are no cells", net("np2;hb1;ct0", 9).stuck(), true);
        due("all that there can be", net("hb3;hb3;hb3;ct0;ct0;ct0", 60).stuck(), true);
        HopCredits first = net("h;hb1;ct0", 5);
        due("HOP 0 sends still", first.stuck(), false);
        go(first, 20);
        due("HOP 0 does no more", first.stuck(), true);
    }

    // ---- WOULD, BEST ZONE

    private static void would() {
        about("would NONE: as zone() would be refused, n out of bounds");
        HopCredits x = net("nr2;hb12;ct0;c", 20);
        due("RESERVE", x.would(0, 1, 2, 10) >= 0, true);
        due("below RESERVE", x.would(0, 1, 1, 10), NONE);
        due("POOL", x.would(0, 1, 12, 10), NONE);
        due("above POOL", x.would(0, 1, 13, 10), NONE);
        due("it is so", x.would(0, 1, 6, 10), NONE);
        due("no room", x.would(0, 1, 7, 10), NONE);
        x.zone(0, 1, 3);
        due("room", x.would(0, 1, 6, 10) >= 0, true);
        due("no such HOP", x.would(1, 1, 6, 10), NONE);
        due("no such CIRCUIT", x.would(0, 2, 6, 10), NONE);
        due("n 0", x.would(0, 1, 6, 0), 0);
        due("n 200", x.would(0, 1, 6, 200), 200);
        due("n 201", x.would(0, 1, 6, 201), NONE);
        due("n -1", x.would(0, 1, 6, -1), NONE);
        statusOf(x, 0, 0, 0, 0);
        about("WOULD a ZONE be another one: cells DELIVERED of all CIRCUITS in n TICKS");
        HopCredits y = net("hd4b4");
        due("ZONE 1: one each 8 TICKS, from TICK 4 on", y.would(0, 0, 1, 200), 25);
        due("ZONE 2", y.would(0, 0, 2, 200), 50);
        due("ZONE 3", y.would(0, 0, 3, 200), 75);
        HopCredits z = net("h;c;c");
        due("of both, one in each TICK", z.would(0, 0, 1, 20), 19);
        due("of both, one in each TICK", z.would(0, 1, 1, 20), 19);
        due("in 4 TICKS", y.would(0, 0, 3, 4), 0);
        due("in 5 TICKS", y.would(0, 0, 3, 5), 1);
    }

    private static void bestZone() {
        about("BEST ZONE: the least one of those that zone() would lay (or as it is) by which most are DELIVERED of all");
        for (int reserve = 1; reserve <= 4; reserve++) {
            due("all alike: RESERVE", net("nr" + reserve + ";c;c").bestZone(0, 1, 1), reserve);
        }
        for (int delay = 1; delay <= 4; delay++) {
            due("DELAY " + delay, net("hb30d" + delay).bestZone(0, 0, 60), 2 * delay);
            due("as it is", net("hd" + delay + "b" + 2 * delay).bestZone(0, 0, 60), 2 * delay);
            due("POOL is less", net("hd" + delay + "b" + (2 * delay - 1)).bestZone(0, 0, 60), 2 * delay - 1);
        }
        due("of all: the other takes the turns", net("hd2;c;c").bestZone(0, 0, 60), 1);
        HopCredits x = net("hd4b8;c;cg0");
        due("no room", x.bestZone(0, 0, 60), 4);
        x.zone(0, 1, 2);
        due("room for 6", x.bestZone(0, 0, 60), 6);
        x.zone(0, 1, 1);
        due("room for 7", x.bestZone(0, 0, 60), 7);
        due("few TICKS: 2 sent are enough", x.bestZone(0, 0, 6), 2);
        due("n 60", x.bestZone(0, 0, 60), 7);
        due("n 61", x.bestZone(0, 0, 61), NONE);
        due("n 0", x.bestZone(0, 0, 0), NONE);
    }

    // ---- WAITS, WORST, BUSIEST

    private static void waits() {
        about("WAITS: at the ends of how many of these it has a cell at the near end of a HOP and no CREDIT there");
        HopCredits x = net("hb1;ct0");
        due("TICK 0: it was sent", x.waits(0, 0, 1), 0);
        due("TICK 1", x.waits(0, 0, 2), 1);
        due("all but the first", x.waits(0, 0, 200), 199);
        // at the end of TICK 7 ADAPT takes the ZONE of CIRCUIT 1 back to 1: all of it is OUT, and a cell is there
        HopCredits y = net("na8;hb8;c;cs6t0", 7);
        due("behind ADAPT", y.waits(0, 1, 1), 1);
        y.go(1);
        due("ahead of ADAPT it had CREDIT", y.lane(0, 1, 6), 0);
        due("CREDIT", y.lane(0, 1, 5), 0);
        due("ZONE", y.lane(0, 1, 3), 1);
        due("a cell is there", y.buffer(0, 1), 1);
    }

    private static void worst() {
        about("WORST: the HOP at which that is most (of several the lowest; none: at none)");
        due("at none", net("h;h").worst(0, 200), NONE);
        due("at HOP 0 alone", net("hb1;h").worst(0, 9), 0);
        due("at HOP 2 alone", net("h;h;hb1").worst(0, 6), 2);
        HopCredits three = net("hb1;hb1;hb1;ct0", 30);
        due("of three the lowest", three.worst(0, 200), 0);
        HopCredits two = net("hb30;hb1;hb1;ct0", 9);
        due("HOP 0", two.waits(0, 0, 5), 0);
        due("HOP 1", two.waits(1, 0, 5), 5);
        due("HOP 2", two.waits(2, 0, 5), 5);
        due("of two the lowest", two.worst(0, 5), 1);
        HopCredits last = net("hb4;hb1;hb1;ct0", 5);
        due("HOP 0", last.waits(0, 0, 2) < last.waits(1, 0, 2), true);
        due("at the end of one TICK", net("hb1;ct0", 1).worst(0, 1), 0);
        due("at the end of one TICK at none", net("hb1;ct0").worst(0, 1), NONE);
    }

    private static void busiest() {
        about("BUSIEST: the HOP that is least IDLE (of several the lowest)");
        due("all alike", net("h;h;h;cg0").busiest(200), 0);
        due("HOP 0 begins", net("h;h;h").busiest(1), 0);
        HopCredits x = net("h;h;h", 2);
        x.source(0, 0, 0);
        due("HOPS 1 and 2 in one TICK", x.busiest(1), 1);
        due("HOP 2 in two TICKS", x.busiest(2), 2);
        due("HOP 2 in 200", x.busiest(200), 2);
        x.go(9);
        due("all idle", x.busiest(1), 0);
    }

    // ---- count

    private static void counts() {
        about("count: 5 KNOWN that are not GONE (how many HOPS, CIRCUITS)");
        HopCredits x = net("h;hd4;c;c", 2);
        // HOP 0: cell of CIRCUIT 0 went on in TICK 1
        due("one of HOP 0", x.count(5), 1);
        x.go(1);
        due("the other of HOP 0 now", x.count(5), 1);
        x.go(3);
        due("one of HOP 1, too", x.count(5), 2);
        go(x, 2);
        due("both of HOP 1, too", x.count(5), 3);
        about("count: 3 updates lost so far, 4 probes sent so far");
        HopCredits y = net("h;h");
        y.jam(0, 2);
        y.jam(1, 1);
        y.go(9);
        due("of all HOPS", y.count(3), 3);
        y.probe(0, 0);
        y.probe(1, 0);
        due("of all HOPS", y.count(4), 2);
        y.go(9);
        due("so far, not on the way", y.count(4), 2);
        due("what is tried apart is not lost", y.loss(9, 200) >= 0 && y.count(3) == 3, true);
    }

    public static void main(String[] args) {
        noTicksAndTwoHundred();
        countersAhead();
        deliveredOfAll();
        heldUp();
        idle();
        mostBehindAnyAndNow();
        mostOfNodeZero();
        healed();
        healedLate();
        learns();
        loss();
        bears();
        fair();
        alone();
        aloneWhateverWasBefore();
        full();
        law();
        trips();
        oldest();
        stuck();
        would();
        bestZone();
        waits();
        worst();
        busiest();
        counts();
        finish("the edges of what is told ahead hold");
    }
}
