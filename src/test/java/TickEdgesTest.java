/** The edges of promises 7 to 12: what a TICK does with what is empty, full, just there, or beyond 63. */
public final class TickEdgesTest extends Due {
    // ---- counters modulo 64

    /** SENT is the TICK, GONE one less, KNOWN two less, as one cell is sent, taken, told of in each TICK. */
    private static void moduloSixtyFour() {
        about("SENT, GONE, KNOWN are told modulo 64; OUT: SENT less KNOWN, modulo 64");
        HopCredits x = net("h");
        for (int tick : new int[] {2, 63, 64, 65, 66, 67, 127, 128, 129, 130, 192, 193, 194, 256, 258}) {
            go(x, tick - x.rule(5));
            String at = " in TICK " + tick;
            due("SENT" + at, x.lane(0, 0, 0), tick % 64);
            due("GONE" + at, x.lane(0, 0, 1), (tick - 1) % 64);
            due("KNOWN" + at, x.lane(0, 0, 2), (tick - 2) % 64);
            due("OUT" + at, x.lane(0, 0, 4), 2);
            due("CREDIT" + at, x.lane(0, 0, 5), 10);
            due("what an update tells" + at, x.way(0, 1, 1), (tick - 1) % 64);
            due("KNOWN that are not GONE" + at, x.count(5), 1);
            due("cells sent since ADAPT are not cut" + at, x.lane(0, 0, 8), tick);
            due("cells that came are not cut" + at, x.circuit(0, 3), tick);
            due("DELIVERED are not cut" + at, x.circuit(0, 5), tick - 1);
        }
    }

    /** All updates are lost until 30 are OUT; then an answer tells of 30 at once, three times, beyond 63 the third. */
    private static void thirtyFurtherAtOnce() {
        about("KNOWN is what it tells, if that, less KNOWN, modulo 64, is below 32");
        HopCredits x = net("hb30");
        for (int known = 30; known <= 120; known += 30) {
            for (int i = 0; i < 5; i++) {
                x.jam(0, 9);
                x.go(8);
            }
            x.jam(0, 0);
            due("SENT", x.lane(0, 0, 0), known % 64);
            due("GONE", x.lane(0, 0, 1), known % 64);
            due("KNOWN", x.lane(0, 0, 2), (known - 30) % 64);
            due("OUT", x.lane(0, 0, 4), 30);
            due("CREDIT", x.lane(0, 0, 5), 0);
            due("no more is sent", x.stuck(), true);
            due("learns without a probe", x.learns(0, 0), NONE);
            x.probe(0, 0);
            due("learns", x.learns(0, 0), 3);
            x.jam(0, 9);
            x.go(1);
            x.jam(0, 0);
            x.go(1);
            due("the answer tells", x.way(0, 1, 1), known % 64);
            x.jam(0, 9);
            x.go(1);
            due("KNOWN", x.lane(0, 0, 2), known % 64);
            due("it sends again", x.lane(0, 0, 0), (known + 1) % 64);
        }
    }

    private static void healedByTheNext() {
        about("an update that is lost is healed by the next one, beyond 63 too");
        HopCredits x = net("h", 62);
        x.jam(0, 4);
        x.go(5);
        // those of TICKS 62 to 65 are lost, that of TICK 66 tells 66
        due("KNOWN is behind", x.lane(0, 0, 2), 61);
        due("OUT", x.lane(0, 0, 4), 6);
        due("the next tells", x.way(0, 1, 1), 2);
        x.go(1);
        due("KNOWN", x.lane(0, 0, 2), 2);
        due("OUT", x.lane(0, 0, 4), 2);
    }

    private static void creditIsZeroAtLeast() {
        about("CREDIT: ZONE less OUT (0 at least)");
        HopCredits x = net("hb5;ct0", 4);
        due("OUT 4 of 5", x.lane(0, 0, 5), 1);
        x.zone(0, 0, 4);
        due("OUT 4 of 4", x.lane(0, 0, 5), 0);
        x.go(1);
        due("none is sent", x.lane(0, 0, 0), 4);
        x.zone(0, 0, 1);
        due("OUT 4 of 1", x.lane(0, 0, 5), 0);
        due("OUT", x.lane(0, 0, 4), 4);
        x.go(1);
        due("none is sent", x.lane(0, 0, 0), 4);
        x.zone(0, 0, 5);
        due("OUT 4 of 5 again", x.lane(0, 0, 5), 1);
        x.go(1);
        due("one is sent", x.lane(0, 0, 0), 5);
    }

    // ---- ARRIVE

    private static void delays() {
        about("ARRIVE: what was sent over a HOP DELAY TICKS ago comes");
        for (int delay = 1; delay <= 4; delay++) {
            HopCredits x = net("hd" + delay + ";cg9", delay);
            due("on the HOP until TICK " + delay, x.lane(0, 0, 9), 1);
            due("it comes in the TICK to come", x.way(0, 1, 0), 0);
            due("DELIVERED", x.circuit(0, 5), 0);
            x.go(1);
            due("taken as it comes", x.circuit(0, 5), 1);
            due("on the HOP", x.lane(0, 0, 9), 0);
            due("its TRIP", x.trip(0, 0), delay);
            due("its update is on the HOP", x.way(0, delay, 1), 1);
            go(x, delay - 1);
            due("still on it", x.way(0, 1, 1), 1);
            due("KNOWN", x.lane(0, 0, 2), 0);
            x.go(1);
            due("KNOWN", x.lane(0, 0, 2), 1);
            due("updates on it", x.hop(0, 6), 0);
        }
    }

    private static void probesAndAnswers() {
        about("a probe to the far end: an answer (an update) is sent");
        for (int delay = 1; delay <= 4; delay++) {
            HopCredits x = net("hd" + delay + ";cg0");
            x.probe(0, 0);
            due("it comes behind " + delay, x.way(0, delay + 1, 4), 1);
            go(x, delay);
            due("on the HOP still", x.hop(0, 7), 1);
            due("in the TICK to come", x.way(0, 1, 4), 1);
            x.go(1);
            due("no more", x.hop(0, 7), 0);
            due("its answer is on the HOP", x.hop(0, 6), 1);
            due("it comes behind " + delay, x.way(0, delay, 1), 0);
            go(x, delay);
            due("no more", x.hop(0, 6), 0);
        }
    }

    private static void bufferWithoutCells() {
        about("TAKE, SEND: with cells there");
        HopCredits x = net("h;h;cs3", 3);
        due("none taken", x.circuit(0, 5), 0);
        due("GONE", x.lane(1, 0, 1), 0);
        due("SENT", x.lane(0, 0, 0), 0);
        due("sent latest", x.hop(0, 5), NONE);
        for (int node = 0; node <= 2; node++) {
            due("buffer(" + node + ", 0)", x.buffer(node, 0), 0);
        }
        x.go(1);
        due("sent as it came", x.lane(0, 0, 0), 1);
        due("it is on HOP 0", x.hop(0, 4), 1);
        x.go(1);
        due("sent on as it came", x.lane(1, 0, 0), 1);
        due("GONE of the HOP behind", x.lane(0, 0, 1), 1);
        due("GONE of its own", x.lane(1, 0, 1), 0);
    }

    // ---- COME

    private static void startAndGap() {
        about("COME: TICK being START or later, TICK less START a multiple of GAP");
        for (int start : new int[] {0, 1, 19, 20}) {
            for (int gap : new int[] {1, 2, 8, 9}) {
                HopCredits x = net("cs" + start + "g" + gap, start);
                due("none ahead of START " + start, x.circuit(0, 3), 0);
                x.go(1);
                due("one in START", x.circuit(0, 3), 1);
                go(x, gap - 1);
                due("one until GAP " + gap + " behind it", x.circuit(0, 3), 1);
                x.go(1);
                due("two with it", x.circuit(0, 3), 2);
            }
        }
        HopCredits late = net("cg0");
        late.source(0, 1, 999);
        go(late, 999);
        due("none until 998", late.circuit(0, 3), 0);
        late.go(1);
        due("one in 999", late.circuit(0, 3), 1);
        HopCredits anew = net("cg0", 7);
        anew.source(0, 4, 2);
        anew.go(3);
        due("none in 7 to 9", anew.circuit(0, 3), 0);
        anew.go(1);
        due("one in 10", anew.circuit(0, 3), 1);
        due("GAP 0: none", net("cg0", 250).circuit(0, 3), 0);
    }

    private static void ninetyNine() {
        about("the SOURCE: 99 at most; 99 there: it is SPILT");
        HopCredits x = net("hb1;ct0", 99);
        due("98 and one sent", x.buffer(0, 0), 98);
        x.go(1);
        due("99", x.buffer(0, 0), 99);
        due("SPILT", x.circuit(0, 4), 0);
        due("came", x.circuit(0, 3), 100);
        x.go(1);
        due("99 still", x.buffer(0, 0), 99);
        due("SPILT", x.circuit(0, 4), 1);
        due("it came, too", x.circuit(0, 3), 101);
        due("anywhere", x.circuit(0, 6), 100);
        due("anywhere", x.count(1), 100);
        x.takes(0, 1);
        x.go(1);
        due("SPILT, as one is taken at the end", x.circuit(0, 4), 2);
        x.go(1);
        due("SPILT ahead of SEND", x.circuit(0, 4), 3);
        due("one was sent", x.buffer(0, 0), 98);
        x.go(1);
        due("there was room", x.circuit(0, 4), 3);
        due("99 again", x.buffer(0, 0), 99);
        due("each SOURCE for itself", net("hb2;ct0;ct0g2", 150).circuit(1, 4), 0);
    }

    private static void spiltHasNoTrip() {
        about("cells of a CIRCUIT keep their order; a cell that is SPILT is none of them");
        HopCredits x = net("hb1;ct0", 110);
        x.source(0, 0, 0);
        x.takes(0, 1);
        due("the first", x.oldest(0), 110);
        // taken in 110, 112, 114 and so on: the cell of TICK k in 110 and 2 k
        x.go(1);
        due("TRIP of the first", x.trip(0, 0), 110);
        go(x, 2 * 98);
        due("TRIP of the 99th, that of TICK 98", x.trip(0, 0), 110 + 98);
        due("the last is that of TICK 99", x.oldest(0), 307 - 99);
        x.go(2);
        due("TRIP of the last", x.trip(0, 1), 110 + 99);
        due("DELIVERED", x.circuit(0, 5), 100);
        due("none underway", x.oldest(0), NONE);
        due("all added up", x.trip(0, 2), 100 * 110 + 99 * 100 / 2);
    }

    // ---- TAKE

    private static void takesInTheirTicks() {
        about("TAKE: TICK a multiple of TAKES");
        for (int takes = 2; takes <= 9; takes++) {
            HopCredits x = net("ct" + takes, takes);
            due("none until TAKES " + takes, x.circuit(0, 5), 0);
            x.go(1);
            due("one in it", x.circuit(0, 5), 1);
            go(x, takes - 1);
            due("one still", x.circuit(0, 5), 1);
            x.go(1);
            due("two", x.circuit(0, 5), 2);
        }
        due("TAKES 1", net("ct1", 2).circuit(0, 5), 1);
        due("TAKES 0: none", net("ct0", 200).circuit(0, 5), 0);
        HopCredits late = net("ct9s9", 18);
        due("none there in TICK 9", late.circuit(0, 5), 0);
        due("nor GONE", late.lane(0, 0, 1), 0);
        late.go(1);
        due("one in TICK 18", late.circuit(0, 5), 1);
    }

    // ---- SEND

    private static void turns() {
        about("SEND: from the one behind that which sent latest over it on (at first 0 on), round");
        HopCredits x = net("h;c;c;c");
        due("none did", x.hop(0, 5), NONE);
        for (int tick = 0; tick < 7; tick++) {
            x.go(1);
            due("in TICK " + tick, x.hop(0, 5), tick % 3);
        }
        HopCredits ahead = net("h;cs2;c;cs2", 2);
        due("1, as 0 has none yet, and 1 again", ahead.hop(0, 5), 1);
        due("sent of it", ahead.lane(0, 1, 0), 2);
        ahead.go(1);
        due("then 2, not 0", ahead.hop(0, 5), 2);
        ahead.go(1);
        due("then 0, round", ahead.hop(0, 5), 0);
        ahead.go(1);
        due("then 1", ahead.hop(0, 5), 1);
        HopCredits poor = net("hb6;c;ct0;c", 6);
        due("1 has sent its ZONE of 2", poor.lane(0, 1, 0), 2);
        poor.go(1);
        due("0", poor.hop(0, 5), 0);
        poor.go(1);
        due("1 has cells, but no CREDIT: 2", poor.hop(0, 5), 2);
        HopCredits two = net("h;h;c;c", 2);
        due("turns of HOP 0", two.hop(0, 5), 1);
        due("turns of HOP 1 are its own", two.hop(1, 5), 0);
    }

    private static void oneCellInATick() {
        about("SEND: the first that has a cell and CREDIT sends it");
        HopCredits x = net("hb30;c;c;c", 30);
        due("one in each TICK", x.lane(0, 0, 8) + x.lane(0, 1, 8) + x.lane(0, 2, 8), 30);
        due("each its share", x.lane(0, 2, 0), 10);
        HopCredits none = net("hb3;ct0;ct0;ct0", 3);
        due("each its ZONE of 1", none.hop(0, 5), 2);
        none.go(9);
        due("none has CREDIT: who sent latest stays", none.hop(0, 5), 2);
        due("nothing is on the HOP", none.hop(0, 4), 0);
    }

    private static void waited() {
        about("WAITED: has a cell there and no CREDIT, a TICK more; others 0");
        HopCredits x = net("hd2b1", 1);
        due("the only cell was sent", x.lane(0, 0, 6), 0);
        for (int waits = 1; waits <= 3; waits++) {
            x.go(1);
            due("no CREDIT", x.lane(0, 0, 6), waits);
        }
        x.go(1);
        due("it sends in TICK 4, has cells, but no CREDIT again", x.lane(0, 0, 6), 4);
        due("SENT", x.lane(0, 0, 0), 2);
        HopCredits y = net("hb2;cg2;ct0", 9);
        due("no cell is left", y.lane(0, 0, 6), 0);
        due("it sent in TICK 1, and WAITED with it", y.lane(0, 1, 6), 8);
        HopCredits empty = net("hb1;ct0g9", 9);
        due("no cell: 0", empty.lane(0, 0, 6), 0);
        empty.go(1);
        due("one came: 1", empty.lane(0, 0, 6), 1);
        HopCredits grown = net("hb4;ct0", 9);
        grown.takes(0, 1);
        grown.go(1);
        due("its update is on the way", grown.lane(0, 0, 6), 6);
        grown.zone(0, 0, 1);
        grown.go(1);
        due("OUT is ZONE and more", grown.lane(0, 0, 6), 7);
    }

    private static void probesInTime() {
        about("as it has WAITED PROBES TICKS (PROBES above 0), a probe is sent, and it has WAITED 0");
        for (int probes = 1; probes <= 9; probes++) {
            HopCredits x = net("np" + probes + ";hd4b1;ct0", probes);
            due("WAITED less than " + probes, x.lane(0, 0, 6), probes - 1);
            due("none sent", x.count(4), 0);
            x.go(1);
            due("WAITED 0", x.lane(0, 0, 6), 0);
            due("one sent", x.count(4), 1);
            due("it comes DELAY TICKS behind", x.way(0, 4, 4), 1);
            go(x, probes - 1);
            due("WAITED again", x.lane(0, 0, 6), probes - 1);
            due("one still", x.count(4), 1);
            x.go(1);
            due("two", x.count(4), 2);
        }
        HopCredits never = net("np0;hb1;ct0", 201);
        due("PROBES 0: none", never.count(4), 0);
        due("WAITED goes on", never.lane(0, 0, 6), 200);
    }

    // ---- updates

    private static void everyFourth() {
        about("As GONE is one more the EVERY-th time since the latest of its updates, an update is sent");
        for (int every = 1; every <= 4; every++) {
            HopCredits x = net("he" + every);
            for (int gone = 0; gone < 9; gone++) {
                // in TICK gone that many are GONE
                x.go(1);
                due("GONE", x.lane(0, 0, 1), gone);
                due("since the latest", x.lane(0, 0, 7), gone % every);
                boolean sent = gone > 0 && gone % every == 0;
                due("EVERY " + every + ": what is on the HOP", x.way(0, 1, 1), sent ? gone : NONE);
                due("updates on it", x.hop(0, 6), sent ? 1 : 0);
            }
        }
    }

    private static void answersDoNotCount() {
        about("answers to probes do not count");
        HopCredits x = net("he4", 2);
        x.probe(0, 0);
        x.go(2);
        // the probe comes in TICK 3, as 2 are GONE; then the third
        due("the answer tells", x.way(0, 1, 1), 2);
        due("since the latest update", x.lane(0, 0, 7), 3);
        x.go(1);
        due("KNOWN by the answer", x.lane(0, 0, 2), 2);
        due("the fourth time", x.lane(0, 0, 7), 0);
        due("its update", x.way(0, 1, 1), 4);
    }

    private static void latestAlone() {
        about("Of several updates, answers of a CIRCUIT sent over a HOP in one TICK the latest alone is on it");
        HopCredits x = net("hd3;c;cg0", 5);
        x.probe(0, 0);
        x.probe(0, 1);
        go(x, 4);
        // in TICK 8 both are answered, circuit 0 with 5; then its sixth is taken, and an update tells 6
        due("of circuit 0 the latest", x.way(0, 3, 1), 6);
        due("of circuit 1 its answer", x.way(0, 3, 2), 0);
        due("each CIRCUIT has its own", x.hop(0, 6), 4);
        x.go(2);
        due("KNOWN as yet", x.lane(0, 0, 2), 5);
        x.go(1);
        due("KNOWN", x.lane(0, 0, 2), 6);
    }

    private static void lostOnes() {
        about("If the HOP is JAMMED for n updates above 0, it is lost (n is one less; answers, too; it counts as sent)");
        for (int n = 1; n <= 9; n++) {
            HopCredits x = net("h");
            x.jam(0, n);
            go(x, n);
            due("one is to be lost", x.hop(0, 3), 1);
            due("lost", x.count(3), n - 1);
            x.go(1);
            due("none is to be lost", x.hop(0, 3), 0);
            due("lost", x.count(3), n);
            due("on the HOP", x.hop(0, 6), 0);
            due("it counts as sent", x.lane(0, 0, 7), 0);
            x.go(1);
            due("the next is not lost", x.hop(0, 6), 1);
            due("lost", x.count(3), n);
            due("KNOWN", x.lane(0, 0, 2), 0);
            x.go(1);
            due("KNOWN", x.lane(0, 0, 2), n + 1);
        }
        HopCredits every = net("he3");
        every.jam(0, 1);
        every.go(4);
        due("the third is lost, and counts as sent", every.lane(0, 0, 7), 0);
        every.go(2);
        due("so the sixth is the next", every.hop(0, 6), 0);
        every.go(1);
        due("it is on the HOP", every.way(0, 1, 1), 6);
    }

    private static void lostAnswers() {
        about("JAMMED: answers, too");
        HopCredits x = net("h;h;cg0");
        x.jam(0, 1);
        x.probe(0, 0);
        x.probe(1, 0);
        x.go(2);
        due("lost", x.count(3), 1);
        due("n is one less", x.hop(0, 3), 0);
        due("no answer", x.hop(0, 6), 0);
        due("the answer of another HOP", x.hop(1, 6), 1);
        // in one TICK first the answer is lost, then the update goes
        HopCredits y = net("h", 5);
        y.jam(0, 2);
        y.probe(0, 0);
        y.go(2);
        due("the update of TICK 5, the answer of TICK 6", y.count(3), 2);
        due("the update of TICK 6", y.way(0, 1, 1), 6);
    }

    // ---- ADAPT

    private static void adaptsInTime() {
        about("ADAPT, if ADAPTS is above 0 and TICK and 1 is a multiple of it");
        for (int adapts = 1; adapts <= 20; adapts++) {
            HopCredits x = net("na" + adapts + ";h;c;cg0", adapts - 1);
            due("cells sent since", x.lane(0, 0, 8), adapts - 1);
            due("ZONE as it was", x.lane(0, 1, 3), 6);
            x.go(1);
            due("ADAPT " + adapts, x.lane(0, 0, 8), 0);
            due("ZONE of the one that sends", x.lane(0, 0, 3), 11);
            due("ZONE of the one that does not", x.lane(0, 1, 3), 1);
            go(x, adapts - 1);
            due("cells sent since", x.lane(0, 0, 8), adapts - 1);
            x.go(1);
            due("ADAPT again", x.lane(0, 0, 8), 0);
        }
        HopCredits never = net("na0;h;c;cg0", 240);
        due("ADAPTS 0: never", never.lane(0, 0, 8), 240);
        due("ZONE", never.lane(0, 0, 3), 6);
    }

    private static void aimsAreCut() {
        about("AIM: its part, cut; without any: by CIRCUITS, cut");
        HopCredits x = net("nr2;hb14;cs9;cs9;cs9");
        for (int c = 0; c < 3; c++) {
            due("2 and 8 by 3", x.aim(0, c), 4);
        }
        HopCredits one = net("nr2a3;hb14;cg0");
        due("one alone: 2 and all 12", one.aim(0, 0), 14);
        one.go(3);
        due("ADAPT leaves it all", one.lane(0, 0, 3), 14);
        HopCredits y = net("nr1a8;hb10;c;cg2s1;cg0", 7);
        // sent: 0, 1, 0, 1, 0, 1, 0
        due("1 and 7 times 4 by 7", y.aim(0, 0), 5);
        due("1 and 7 times 3 by 7", y.aim(0, 1), 4);
        due("1 and 0", y.aim(0, 2), 1);
        y.go(1);
        // 4 and 4 of 8: AIM 1 and 3, cut; ZONES were 3, 3, 3
        due("ZONE", y.lane(0, 0, 3), 4);
        due("ZONE", y.lane(0, 1, 3), 4);
        due("ZONE above AIM is it", y.lane(0, 2, 3), 1);
        HopCredits z = net("nr4a1;hb12;c;c;c", 1);
        for (int c = 0; c < 3; c++) {
            due("POOL is all RESERVES", z.lane(0, c, 3), 4);
        }
    }

    private static void zonesTakenBack() {
        about("of a ZONE below its AIM: AIM, POOL less for each other one the greater one of ZONE and OUT: the lesser");
        // each of three sends 4 in TICKS 0 to 11, circuit 2 keeps its 4 OUT; then 0 and 1 send 6 each
        HopCredits x = net("na12;hb14;c;c;ct0", 12);
        for (int c = 0; c < 3; c++) {
            due("1 and 11 times 4 by 12", x.lane(0, c, 3), 4);
        }
        x.go(11);
        x.go(1);
        due("ZONE of the one that keeps its cells", x.lane(0, 2, 3), 1);
        due("its OUT is the greater one", x.lane(0, 2, 4), 4);
        due("CIRCUIT by CIRCUIT: 0 is its AIM, 6", x.lane(0, 0, 3), 6);
        due("1 has no room: 14 less 6 and 4", x.lane(0, 1, 3), 4);
        due("room(0, 1)", x.room(0, 1), 4);
        x.takes(2, 1);
        x.go(1);
        due("one is GONE, but not KNOWN", x.room(0, 1), 4);
        for (int room = 5; room <= 7; room++) {
            x.go(1);
            due("one more is KNOWN to be GONE", x.room(0, 1), room);
        }
        x.go(3);
        due("then its ZONE is the greater one", x.room(0, 1), 7);
    }

    private static void asMuchAsThereIsRoom() {
        about("ADAPT: the lesser of both, if it is more than the ZONE is");
        HopCredits x = net("na10;hb9;ct0;c", 10);
        due("4 of 10: 1 and 2", x.lane(0, 0, 3), 3);
        due("6 of 10: 1 and 4", x.lane(0, 1, 3), 5);
        x.zone(0, 1, 2);
        x.go(9);
        due("AIM", x.aim(0, 1), 8);
        x.go(1);
        due("9 less 4 that are OUT is the lesser", x.lane(0, 1, 3), 5);
        x.go(10);
        due("no more than the ZONE is", x.lane(0, 1, 3), 5);
    }

    private static void neverFlowsOver() {
        about("shares of a POOL are taken back without ever flowing over");
        HopCredits x = net("na7p4;hd2b9;hd4b10;cg2t3;cg1t2;cg3t0");
        for (int tick = 0; tick < 90; tick++) {
            x.go(1);
            if (tick % 10 == 3) {
                x.takes(tick / 10 % 3, tick % 4);
            }
            for (int h = 0; h < 2; h++) {
                int held = 0;
                for (int c = 0; c < 3; c++) {
                    held += x.lane(h, c, 9) + x.buffer(h + 1, c);
                }
                due("cells on HOP " + h + " and behind it fit", held <= x.hop(h, 1), true);
            }
        }
    }

    // ---- what is told

    private static void whatIsOnItsWay() {
        about("way: what comes in so many TICKS (1 .. 5; 1: with the one to come)");
        HopCredits x = net("hd4;c;c;c", 4);
        due("the cell of TICK 0", x.way(0, 1, 0), 0);
        due("the cell of TICK 1", x.way(0, 2, 0), 1);
        due("the cell of TICK 2", x.way(0, 3, 0), 2);
        due("the cell of TICK 3", x.way(0, 4, 0), 0);
        due("none is sent yet", x.way(0, 5, 0), NONE);
        x.probe(0, 2);
        due("a probe by hand", x.way(0, 5, 4), 4);
        x.probe(0, 0);
        due("bits", x.way(0, 5, 4), 5);
        x.probe(0, 1);
        due("bits", x.way(0, 5, 4), 7);
        due("none", x.way(0, 4, 4), NONE);
        x.go(3);
        due("update of CIRCUIT 0", x.way(0, 2, 1), 1);
        due("update of CIRCUIT 1", x.way(0, 3, 2), 1);
        due("update of CIRCUIT 2", x.way(0, 4, 3), 1);
        due("none", x.way(0, 1, 1), NONE);
        due("none", x.way(0, 2, 2), NONE);
        due("probes", x.way(0, 2, 4), 7);
        due("a CIRCUIT that there is not", net("hd1", 3).way(0, 1, 2), NONE);
        due("a CIRCUIT that there is not", net("hd1", 3).way(0, 1, 3), NONE);
        due("ticks 0", x.way(0, 0, 0), NONE);
        due("ticks 6", x.way(0, 6, 0), NONE);
        due("ticks LARGEST", x.way(0, LARGEST, 0), NONE);
        due("ticks LEAST", x.way(0, LEAST, 0), NONE);
    }

    private static void comesInNoTicks() {
        about("way: so many TICKS (1 .. 5), none other, though all five are in use");
        HopCredits x = net("hd4;c;c;c", 11);
        x.probe(0, 1);
        due("in 5", x.way(0, 5, 4), 2);
        due("in 0", x.way(0, 0, 4), NONE);
        due("in -5", x.way(0, -5, 4), NONE);
        due("in 10", x.way(0, 10, 4), NONE);
        due("a cell in 1", x.way(0, 1, 0), 1);
        due("a cell in 6", x.way(0, 6, 0), NONE);
        due("a cell in -4", x.way(0, -4, 0), NONE);
        due("what 5", x.way(0, 1, 5), NONE);
        due("what -1", x.way(0, 1, -1), NONE);
    }

    /** Whatever the TICK and the CIRCUIT. */
    private static void howManyAreOnIt() {
        about("hop: 4 cells on it, 6 updates and answers on it, 7 probes on it");
        for (int tick = 0; tick <= 6; tick++) {
            for (int c = 0; c < 3; c++) {
                HopCredits x = net("hd4;cg0;cg0;cg0", tick);
                x.source(c, 9, tick);
                x.probe(0, c);
                due("probes", x.hop(0, 7), 1);
                due("cells", x.hop(0, 4), 0);
                x.go(1);
                due("cells", x.hop(0, 4), 1);
                due("cells of the CIRCUIT", x.lane(0, c, 9), 1);
                due("cells of another", x.lane(0, (c + 1) % 3, 9), 0);
                due("updates", x.hop(0, 6), 0);
                x.go(4);
                due("an answer and an update are one", x.hop(0, 6), 1);
                due("it tells", x.way(0, 4, 1 + c), 1);
                due("cells", x.hop(0, 4), 0);
                due("probes", x.hop(0, 7), 0);
            }
        }
    }

    private static void sixtyTicks() {
        about("go: n TICKS (1 .. 60)");
        HopCredits x = net("na7p3;hd2b4e3;hd3;cg2t3;c;cs5");
        HopCredits y = net("na7p3;hd2b4e3;hd3;cg2t3;c;cs5");
        due("go(60)", x.go(60), 60);
        for (int tick = 1; tick <= 60; tick++) {
            due("go(1)", y.go(1), tick);
        }
        due("all in one or one by one", told(x), told(y));
    }

    public static void main(String[] args) {
        moduloSixtyFour();
        thirtyFurtherAtOnce();
        healedByTheNext();
        creditIsZeroAtLeast();
        delays();
        probesAndAnswers();
        bufferWithoutCells();
        startAndGap();
        ninetyNine();
        spiltHasNoTrip();
        takesInTheirTicks();
        turns();
        oneCellInATick();
        waited();
        probesInTime();
        everyFourth();
        answersDoNotCount();
        latestAlone();
        lostOnes();
        lostAnswers();
        adaptsInTime();
        aimsAreCut();
        zonesTakenBack();
        asMuchAsThereIsRoom();
        neverFlowsOver();
        whatIsOnItsWay();
        comesInNoTicks();
        howManyAreOnIt();
        sixtyTicks();
        finish("the edges of a TICK hold");
    }
}
