/** The edges of promises 12 to 18: what is told by hand, why it is refused, and what STATUS counts then. */
public final class HandEdgesTest extends Due {
    // ---- STATUS

    private static void noNetFirst() {
        about("STATUS: no NET (0) is the first of all reasons");
        HopCredits x = new HopCredits();
        due("go", x.go(0), NONE);
        due("go", x.go(61), NONE);
        due("jam", x.jam(0, 10), NONE);
        due("source", x.source(0, 10, 1000), NONE);
        due("takes", x.takes(0, 10), NONE);
        due("zone", x.zone(0, 0, 0), NONE);
        due("probe", x.probe(0, 0), NONE);
        statusOf(x, 7, 0, 0, 0);
    }

    private static void ofSeveralTheFirst() {
        about("STATUS: of several the first");
        HopCredits x = net("nr2;hb9;c;c");
        due("no such HOP, out of bounds", x.jam(1, 10), NONE);
        due("no such HOP, it is so of none", x.jam(1, 0), NONE);
        due("no such CIRCUIT, out of bounds", x.source(2, 10, 0), NONE);
        due("no such CIRCUIT, out of bounds", x.source(2, 0, 1000), NONE);
        due("no such CIRCUIT, out of bounds", x.takes(2, -1), NONE);
        due("no such HOP, out of bounds", x.zone(1, 0, 1), NONE);
        due("no such CIRCUIT, out of bounds", x.zone(0, 2, 10), NONE);
        due("neither HOP nor CIRCUIT is one refusal", x.probe(1, 2), NONE);
        statusOf(x, 8, 0, 0, 0);
        due("GAP out of bounds, START is so", x.source(0, 10, 0), NONE);
        due("START out of bounds, GAP is so", x.source(0, 1, 1000), NONE);
        due("both out of bounds are one refusal", x.source(0, 10, 1000), NONE);
        due("above POOL: out of bounds, no room", x.zone(0, 0, 10), NONE);
        statusOf(x, 8, 4, 0, 0);
        due("it is so", x.zone(0, 0, 4), NONE);
        due("no room", x.zone(0, 0, 6), NONE);
        statusOf(x, 8, 4, 1, 1);
    }

    private static void statusOfHandsAlone() {
        about("STATUS: how many of these were refused");
        HopCredits x = net("h");
        for (int i = 1; i <= 5; i++) {
            x.jam(0, 10);
            due("status(1)", x.status(1), i);
        }
        due("what is told does not count", x.lane(0, 9, 0) + x.buffer(9, 0) + x.way(0, 6, 0), 3 * NONE);
        due("nor what is tried", x.would(0, 0, 13, 1) + x.bestZone(0, 1, 1) + x.delivered(0, 201), 3 * NONE);
        due("nor the TAPE", x.net(), NONE);
        due("nor the TAPE", x.end(1), false);
        due("hop() throws", hopThrows(x, 1, 0), true);
        due("circuit() throws", circuitThrows(x, 1, 0), true);
        due("what is not refused does not count", x.jam(0, 9), 0);
        statusOf(x, 0, 5, 0, 0);
        due("status(-1)", x.status(-1), NONE);
        due("status(4)", x.status(4), NONE);
    }

    // ---- TICKS, JAMMED, SOURCES, TAKES

    private static void ticks() {
        about("go: 1 .. 60");
        HopCredits x = net("h");
        due("go(0)", x.go(0), NONE);
        due("go(1)", x.go(1), 1);
        due("go(60)", x.go(60), 61);
        due("go(61)", x.go(61), NONE);
        due("TICK", x.rule(5), 61);
        statusOf(x, 0, 2, 0, 0);
    }

    private static void jams() {
        about("jam: 0 .. 9; it is so (2)");
        HopCredits x = net("h;h;h");
        for (int n = 1; n <= 9; n++) {
            due("jam", x.jam(2, n), n - 1);
            due("it is so", x.jam(2, n), NONE);
            due("JAMMED", x.hop(2, 3), n);
        }
        due("10", x.jam(2, 10), NONE);
        due("-1", x.jam(2, -1), NONE);
        statusOf(x, 0, 2, 9, 0);
        due("to 0", x.jam(2, 0), 9);
        due("it is so", x.jam(2, 0), NONE);
        due("another HOP is so", x.jam(0, 0), NONE);
        statusOf(x, 0, 2, 11, 0);
        HopCredits y = net("h");
        y.jam(0, 3);
        y.go(2);
        due("one is lost: it is 2 now", y.jam(0, 2), NONE);
        due("for how many it was", y.jam(0, 3), 2);
    }

    private static void sources() {
        about("source: GAP 0 .. 9, START 0 .. 999, both are so (2)");
        HopCredits x = net("cg3s20");
        due("both are so", x.source(0, 3, 20), NONE);
        due("GAP alone is so", x.source(0, 3, 21), 3);
        due("START alone is so", x.source(0, 4, 21), 3);
        due("both", x.source(0, 9, 999), 4);
        due("GAP 10", x.source(0, 10, 999), NONE);
        due("START 1000", x.source(0, 9, 1000), NONE);
        due("both are so", x.source(0, 9, 999), NONE);
        due("as it was", x.circuit(0, 0) * 1000 + x.circuit(0, 1), 9999);
        due("both", x.source(0, 0, 0), 9);
        due("GAP -1", x.source(0, -1, 0), NONE);
        due("START -1", x.source(0, 0, -1), NONE);
        due("both are so", x.source(0, 0, 0), NONE);
        due("START of a GAP of 0", x.source(0, 0, 1), 0);
        statusOf(x, 0, 4, 3, 0);
    }

    private static void takes() {
        about("takes: 0 .. 9, it is so (2)");
        HopCredits x = net("ct9");
        due("it is so", x.takes(0, 9), NONE);
        due("10", x.takes(0, 10), NONE);
        due("to 0", x.takes(0, 0), 9);
        due("it is so", x.takes(0, 0), NONE);
        due("-1", x.takes(0, -1), NONE);
        due("to 9", x.takes(0, 9), 0);
        due("TAKES", x.circuit(0, 2), 9);
        statusOf(x, 0, 2, 2, 0);
    }

    // ---- ZONES

    private static void reserveToPool() {
        about("zone: not RESERVE to POOL (1)");
        for (int reserve = 1; reserve <= 4; reserve++) {
            for (int pool = reserve + 1; pool <= 30; pool++) {
                HopCredits x = net("nr" + reserve + ";hb" + pool);
                due("below RESERVE", x.zone(0, 0, reserve - 1), NONE);
                due("above POOL", x.zone(0, 0, pool + 1), NONE);
                statusOf(x, 0, 2, 0, 0);
                due("would", x.would(0, 0, reserve - 1, 1), NONE);
                due("would", x.would(0, 0, pool + 1, 1), NONE);
                due("RESERVE", x.zone(0, 0, reserve), pool);
                due("it is so", x.zone(0, 0, reserve), NONE);
                due("POOL", x.zone(0, 0, pool), reserve);
                due("ZONE", x.lane(0, 0, 3), pool);
                statusOf(x, 0, 2, 1, 0);
            }
        }
        HopCredits x = net("nr4;hb1;c;c;c");
        due("RESERVE is all there is", x.zone(0, 0, 3), NONE);
        due("it is so", x.zone(0, 0, 4), NONE);
        due("no room", x.zone(0, 0, 5), NONE);
        due("POOL", x.zone(0, 0, 12), NONE);
        due("above POOL", x.zone(0, 0, 13), NONE);
        statusOf(x, 0, 2, 1, 2);
    }

    private static void poolHasNoRoom() {
        about("zone: more than it is only as far as with the others POOL has room");
        HopCredits x = net("hb20;c;c;c");
        // ZONES 6, 6, 6
        due("room", x.room(0, 1), 8);
        due("one too many", x.zone(0, 1, 9), NONE);
        due("just as many", x.zone(0, 1, 8), 6);
        statusOf(x, 0, 0, 0, 1);
        due("no room for another", x.room(0, 0), 6);
        due("no room for another", x.zone(0, 0, 7), NONE);
        due("less is fine", x.zone(0, 0, 2), 6);
        due("back again", x.zone(0, 0, 6), 2);
        due("room of the first", x.room(0, 0), 6);
        statusOf(x, 0, 0, 0, 2);
        about("zone: the greater one of ZONE and OUT of the others");
        HopCredits y = net("hb12;ct0;cg0", 9);
        due("OUT is its ZONE", y.lane(0, 0, 4), 6);
        y.zone(0, 0, 1);
        due("OUT 6 is the greater one", y.room(0, 1), 6);
        due("no room", y.zone(0, 1, 7), NONE);
        due("would", y.would(0, 1, 7, 1), NONE);
        due("of its own OUT 6 and ZONE 1 nothing counts", y.room(0, 0), 6);
        y.takes(0, 1);
        y.go(2);
        due("one is KNOWN to be GONE", y.room(0, 1), 7);
        due("as many", y.zone(0, 1, 7), 6);
        due("no more", y.zone(0, 1, 8), NONE);
        statusOf(y, 0, 0, 0, 2);
        y.go(9);
        due("ZONE 1 is the greater one", y.room(0, 1), 11);
        due("no more", y.zone(0, 1, 12), NONE);
        due("as many", y.zone(0, 1, 11), 7);
        due("the other is its RESERVE", y.room(0, 0), 1);
    }

    private static void eachHopItsOwn() {
        about("zone: of a HOP, CIRCUIT");
        HopCredits x = net("hb6;hb8;c;c");
        due("zone", x.zone(1, 1, 2), 4);
        int[][] want = {{3, 3}, {4, 2}};
        for (int h = 0; h < 2; h++) {
            for (int c = 0; c < 2; c++) {
                due("ZONE of " + h + ", " + c, x.lane(h, c, 3), want[h][c]);
            }
        }
        due("room of the other", x.room(1, 0), 6);
        due("room on the other HOP", x.room(0, 0), 3);
        due("POOL of HOP 0 is the bound there", x.zone(0, 0, 7), NONE);
        statusOf(x, 0, 1, 0, 0);
    }

    // ---- probes

    private static void probes() {
        about("probe: OUT; it has WAITED 0");
        HopCredits x = net("np5;hd3b4;ct0", 4);
        due("WAITED", x.lane(0, 0, 6), 0);
        x.go(4);
        due("WAITED", x.lane(0, 0, 6), 4);
        due("OUT", x.probe(0, 0), 4);
        due("WAITED", x.lane(0, 0, 6), 0);
        x.go(4);
        due("none but that by hand yet", x.count(4), 1);
        x.go(1);
        due("as it has WAITED 5 anew", x.count(4), 2);
        due("OUT of one that never sent", net("c;cg0", 5).probe(0, 1), 0);
        HopCredits y = net("h", 64);
        due("OUT beyond 63", y.probe(0, 0), 2);
    }

    private static void twoProbes() {
        about("probe: two of a HOP, CIRCUIT in one TICK");
        HopCredits x = net("hd2;cg0");
        x.probe(0, 0);
        x.probe(0, 0);
        due("both were sent", x.count(4), 2);
        due("both are on the HOP", x.hop(0, 7), 2);
        due("of one CIRCUIT", x.way(0, 3, 4), 1);
        x.go(3);
        due("of their answers the latest alone is on it", x.hop(0, 6), 1);
        x.probe(0, 0);
        x.probe(0, 0);
        x.jam(0, 3);
        x.go(3);
        due("both are answered, both answers are lost", x.count(3), 2);
        due("n is two less", x.hop(0, 3), 1);
    }

    public static void main(String[] args) {
        noNetFirst();
        ofSeveralTheFirst();
        statusOfHandsAlone();
        ticks();
        jams();
        sources();
        takes();
        reserveToPool();
        poolHasNoRoom();
        eachHopItsOwn();
        probes();
        twoProbes();
        finish("the edges of what is told by hand hold");
    }
}
