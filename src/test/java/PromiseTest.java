/** For each promise of the document: ordinary inputs, the edges it names, wrong inputs; answers worked out by hand. */
public final class PromiseTest extends Due {
    // ---- 1 to 5: the TAPE and the NET

    private static void newObject() {
        about("promise 1");
        HopCredits x = new HopCredits();
        due("NONE", HopCredits.NONE, NONE);
        due("HIDDEN", HopCredits.HIDDEN, HIDDEN);
        for (int what = -1; what <= 6; what++) {
            due("rule(" + what + ")", x.rule(what), HIDDEN);
        }
        due("count(0)", x.count(0), 0);
        due("count(1)", x.count(1), HIDDEN);
        due("hop(0, 0)", hopThrows(x, 0, 0), true);
        due("circuit(0, 0)", circuitThrows(x, 0, 0), true);
        due("lane", x.lane(0, 0, 0), NONE);
        due("buffer", x.buffer(0, 0), NONE);
        due("way", x.way(0, 1, 0), NONE);
        due("aim", x.aim(0, 0), NONE);
        due("room", x.room(0, 0), NONE);
        due("most", x.most(0, 0, 0, 0), NONE);
        due("oldest", x.oldest(0), NONE);
        due("would", x.would(0, 0, 1, 1), NONE);
        due("trip", x.trip(0, 0), NONE);
        due("alone needs no NET", x.alone(1, 1, 1, 1, 10), 5);
        statusOf(x, 0, 0, 0, 0);
    }

    private static void feeds() {
        about("promise 2");
        HopCredits x = new HopCredits();
        due("feed of zeros", x.feed(0, 0, 0, 0, 0), 0);
        due("feed with zeros between", x.feed(0x68000064, 0, 0x00310000, 0, 0), 3);
        due("the order of bytes", x.fault(), NONE);
        due("net", x.net(), 1);
        due("bytes above 127", x.feed(0xFF80FFFF, -1, -1, -1, -1), 20);
        due("fault", x.fault(), 0);
        for (int i = 2; i <= 8; i++) {
            due("feed", x.feed(-1, -1, -1, -1, -1), 20 * i);
        }
        due("161", x.feed(1, 0, 0, 0, 0), NONE);
        due("161", x.feed(0, 1 << 8, 0, 0, 0), NONE);
        due("161", x.feed(0, 0, 1 << 16, 0, 0), NONE);
        due("161", x.feed(0, 0, 0, 1 << 24, 0), NONE);
        due("161", x.feed(0, 0, 0, 0, 1), NONE);
        due("161 leaves it", x.count(0), 160);
        due("160 and none", x.feed(0, 0, 0, 0, 0), 160);
        x.end(159);
        due("161 from 159", x.feed(0x01010000, 0, 0, 0, 0), NONE);
        due("nothing came", x.count(0), 159);
        due("160", x.feed(0, 0, 0x00000100, 0, 0), 160);
    }

    private static void ends() {
        about("promise 3");
        HopCredits x = tape("hd1x");
        due("end(-1)", x.end(-1), false);
        due("end(5)", x.end(5), false);
        due("end(MAX)", x.end(Integer.MAX_VALUE), false);
        due("refused changes nothing", x.count(0), 4);
        due("end(4)", x.end(4), true);
        due("fault", x.fault(), 3);
        due("end(3)", x.end(3), true);
        due("fault", x.fault(), NONE);
        due("count", x.count(0), 3);
        due("end(0)", x.end(0), true);
        due("end(0)", x.end(0), true);
    }

    private static void faults() {
        about("promise 4");
        for (String good : new String[] {"n", "h", "c", "n;h;c", "c;h;c;h;c;h", "nr4a20p9;hd4b30e4;cg9s20t9",
            "n r1 a0 p0 ; h d1 b1 e1 ; c g0 s0 t0", "hd01", "hb 05", "  c  ", "np0r1", "nr4;hb1;c;c;c", "hb01d04"}) {
            faultOf(good, NONE);
        }
        faultOf("", 0);
        faultOf("   ", 3);
        faultOf(";", 0);
        faultOf("h;", 2);
        faultOf("h; ", 3);
        faultOf("h;;h", 2);
        faultOf("hd", 2);
        faultOf("hd ", 3);
        faultOf("hd;", 2);
        faultOf("h1", 1);
        faultOf("hd0", 2);
        faultOf("hd5", 2);
        faultOf("hd05", 3);
        faultOf("hd10", 3);
        faultOf("hb0;", 2);
        faultOf("hb00", 3);
        faultOf("hb000", 4);
        faultOf("hb999", 4);
        faultOf("hd9999", 4);
        faultOf("hb1 2", 4);
        faultOf("hd5 2", 2);
        faultOf("hb31", 3);
        faultOf("he5", 2);
        faultOf("nr0", 2);
        faultOf("nr5", 2);
        faultOf("na21", 3);
        faultOf("np10", 3);
        faultOf("cg10", 3);
        faultOf("cs21", 3);
        faultOf("ct10", 3);
        faultOf("hd1 d1", 4);
        faultOf("hd1b2e3d", 7);
        faultOf("hd1;hd1", NONE);
        faultOf("hg1", 1);
        faultOf("cb1", 1);
        faultOf("nd1", 1);
        faultOf("n;n", 2);
        faultOf("h;n", 2);
        faultOf(" n ; n", 5);
        faultOf("n;h;h;h;h", 8);
        faultOf("c;h;c;c;c", 8);
        faultOf("x", 0);
        faultOf("H", 0);
        faultOf("h\t", 1);
        faultOf("h" + (char) 233, 1);
        faultOf("hd-1", 2);
    }

    private static void nets() {
        about("promise 5");
        HopCredits x = tape("h;c;c;c;c");
        due("net at fault", x.net(), NONE);
        due("the TAPE stays", x.count(0), 9);
        due("no NET still", x.rule(0), HIDDEN);
        x.end(7);
        due("net", x.net(), 3);
        due("the TAPE is empty", x.count(0), 0);
        due("net of nothing", x.net(), NONE);
        due("the NET stays", x.rule(1), 3);
        x.go(0);
        x.go(30);
        x.jam(0, 4);
        x.probe(0, 0);
        feed(x, "n");
        due("net", x.net(), 1);
        due("HOPS", x.rule(0), 1);
        due("TICK", x.rule(5), 0);
        due("DELIVERED", x.count(2), 0);
        due("probes", x.count(4), 0);
        due("JAMMED", x.hop(0, 3), 0);
        due("probes on it", x.hop(0, 7), 0);
        due("latest", x.hop(0, 5), NONE);
        due("cells", x.count(1), 0);
        due("trip", x.trip(0, 0), NONE);
        due("oldest", x.oldest(0), NONE);
        due("STATUS stays", x.status(1), 1);
        due("POOL", x.hop(0, 1), 12);
        due("ZONE", x.lane(0, 0, 3), 12);
        HopCredits y = net("nr4;hb1;hb9;hb30;c;c;c");
        due("POOL is RESERVES", y.hop(0, 1), 12);
        due("POOL is RESERVES", y.hop(1, 1), 12);
        due("POOL as told", y.hop(2, 1), 30);
        due("ZONE", y.lane(0, 2, 3), 4);
        due("ZONE", y.lane(2, 2, 3), 10);
        due("ZONE, cut", net("hb8;c;c;c").lane(0, 0, 3), 2);
    }

    // ---- 6 to 11: what is told

    private static void rules() {
        about("promise 6");
        HopCredits x = net("nr2a7p5;h;h;c;c;c", 9);
        int[] want = {2, 3, 2, 7, 5, 9};
        for (int what = 0; what < want.length; what++) {
            due("rule(" + what + ")", x.rule(what), want[what]);
        }
        due("rule(-1)", x.rule(-1), HIDDEN);
        due("rule(6)", x.rule(6), HIDDEN);
        HopCredits y = net("c");
        due("RESERVE without", y.rule(2), 1);
        due("ADAPTS without", y.rule(3), 0);
        due("PROBES without", y.rule(4), 0);
    }

    private static void hops() {
        about("promise 7");
        HopCredits x = net("hd4b9e2;hd1;c;ct0", 5);
        // hop 0 sends in ticks 0 to 4 in turns; the first cell comes in tick 4 and goes on over hop 1
        int[] first = {4, 9, 2, 0, 4, 0, 0, 0};
        int[] second = {1, 12, 1, 0, 1, 0, 0, 0};
        for (int what = 0; what < 8; what++) {
            due("hop(0, " + what + ")", x.hop(0, what), first[what]);
            due("hop(1, " + what + ")", x.hop(1, what), second[what]);
        }
        due("latest at first", net("h").hop(0, 5), NONE);
        x.jam(0, 3);
        due("JAMMED", x.hop(0, 3), 3);
        x.probe(0, 1);
        x.probe(1, 0);
        x.probe(1, 1);
        due("probes on hop 0", x.hop(0, 7), 1);
        due("probes on hop 1", x.hop(1, 7), 2);
        HopCredits y = net("hd3", 6);
        due("updates on it", y.hop(0, 6), 3);
        due("cells on it", y.hop(0, 4), 3);
        due("hop(-1, 0)", hopThrows(x, -1, 0), true);
        due("hop(2, 0)", hopThrows(x, 2, 0), true);
        due("hop(0, -1)", hopThrows(x, 0, -1), true);
        due("hop(0, 8)", hopThrows(x, 0, 8), true);
        due("hop(0, 7)", hopThrows(x, 0, 7), false);
    }

    private static void circuits() {
        about("promise 8");
        HopCredits x = net("cg3s4t2;ct0;c", 60);
        x.go(60);
        // circuit 0 comes in ticks 4, 7 .. 118: the cell of 118 is on the hop; circuit 1 sends its ZONE of 4 and no more
        int[] first = {3, 4, 2, 39, 0, 38, 1};
        for (int what = 0; what < 7; what++) {
            due("circuit(0, " + what + ")", x.circuit(0, what), first[what]);
        }
        due("circuit(1, 5)", x.circuit(1, 5), 0);
        due("lane(0, 1, 4)", x.lane(0, 1, 4), 4);
        HopCredits y = net("ct0", 60);
        y.go(50);
        due("not yet 99", y.buffer(0, 0), 98);
        y.go(1);
        due("99", y.buffer(0, 0), 99);
        due("none SPILT", y.circuit(0, 4), 0);
        y.go(9);
        due("came, with those SPILT", y.circuit(0, 3), 120);
        due("SPILT", y.circuit(0, 4), 9);
        due("DELIVERED", y.circuit(0, 5), 0);
        due("anywhere", y.circuit(0, 6), 111);
        due("still 99", y.buffer(0, 0), 99);
        due("circuit(-1, 0)", circuitThrows(x, -1, 0), true);
        due("circuit(3, 0)", circuitThrows(x, 3, 0), true);
        due("circuit(0, -1)", circuitThrows(x, 0, -1), true);
        due("circuit(0, 7)", circuitThrows(x, 0, 7), true);
        due("circuit(2, 6)", circuitThrows(x, 2, 6), false);
        HopCredits z = net("cg0", 20);
        due("GAP 0 never comes", z.circuit(0, 3), 0);
    }

    private static void lanes() {
        about("promise 9");
        // sends in ticks 0, 1, 2; takes in 2, 3, 4; the update behind the second taken comes in tick 5
        HopCredits x = net("hd2b3e2", 5);
        int[] want = {3, 3, 0, 3, 3, 0, 2, 1, 3, 0};
        for (int what = 0; what < 10; what++) {
            due("lane(0, 0, " + what + ")", x.lane(0, 0, what), want[what]);
        }
        x.go(1);
        due("KNOWN", x.lane(0, 0, 2), 2);
        due("SENT", x.lane(0, 0, 0), 4);
        due("WAITED: as credit is gone again", x.lane(0, 0, 6), 0);
        due("CREDIT", x.lane(0, 0, 5), 1);
        due("cells on it", x.lane(0, 0, 9), 1);
        due("lane(0, 0, 10)", x.lane(0, 0, 10), NONE);
        due("lane(0, 0, -1)", x.lane(0, 0, -1), NONE);
        due("lane(1, 0, 0)", x.lane(1, 0, 0), NONE);
        due("lane(0, 1, 0)", x.lane(0, 1, 0), NONE);
        due("lane(-1, 0, 0)", x.lane(-1, 0, 0), NONE);
        due("lane(0, -1, 0)", x.lane(0, -1, 0), NONE);
        HopCredits y = net("h", 60);
        y.go(10);
        due("SENT modulo 64", y.lane(0, 0, 0), 6);
        due("GONE modulo 64", y.lane(0, 0, 1), 5);
        due("KNOWN modulo 64", y.lane(0, 0, 2), 4);
        due("OUT over the edge", y.lane(0, 0, 4), 2);
        due("since ADAPT is not modulo", y.lane(0, 0, 8), 70);
        HopCredits z = net("hb3;ct0", 9);
        due("OUT", z.lane(0, 0, 4), 3);
        z.zone(0, 0, 1);
        due("CREDIT is 0 at least", z.lane(0, 0, 5), 0);
        due("WAITED without PROBES", z.lane(0, 0, 6), 6);
    }

    private static void buffers() {
        about("promise 10");
        HopCredits x = net("hb2;h;ct0", 20);
        // hop 1 brings its 12 to the end; hop 0 goes at full rate until then
        due("buffer(2, 0)", x.buffer(2, 0), 12);
        due("buffer(1, 0)", x.buffer(1, 0), 2);
        due("buffer(0, 0)", x.buffer(0, 0), 6);
        due("buffer(3, 0)", x.buffer(3, 0), NONE);
        due("buffer(-1, 0)", x.buffer(-1, 0), NONE);
        due("buffer(0, 1)", x.buffer(0, 1), NONE);
        due("buffer(0, -1)", x.buffer(0, -1), NONE);
    }

    private static void ways() {
        about("promise 11");
        HopCredits x = net("hd4;c;cg2s1", 1);
        due("cell", x.way(0, 4, 0), 0);
        due("cell", x.way(0, 3, 0), NONE);
        due("nothing of hand yet", x.way(0, 5, 4), NONE);
        x.probe(0, 1);
        x.probe(0, 0);
        due("probes by hand come in 5", x.way(0, 5, 4), 3);
        due("not in 4", x.way(0, 4, 4), NONE);
        x.go(4);
        // the cell came in tick 4 and was taken then: its update comes in tick 8
        due("update of circuit 0", x.way(0, 4, 1), 1);
        due("update of circuit 1", x.way(0, 4, 2), NONE);
        due("no circuit 2", x.way(0, 4, 3), NONE);
        due("probes", x.way(0, 1, 4), 3);
        due("cells", x.way(0, 1, 0), 1);
        x.go(1);
        due("probes came", x.way(0, 1, 4), NONE);
        due("answer to circuit 0", x.way(0, 4, 1), 1);
        due("of answer and update the latest", x.way(0, 4, 2), 1);
        due("ticks 0", x.way(0, 0, 0), NONE);
        due("ticks 6", x.way(0, 6, 0), NONE);
        due("what 5", x.way(0, 1, 5), NONE);
        due("what -1", x.way(0, 1, -1), NONE);
        due("hop 1", x.way(1, 1, 0), NONE);
        due("hop -1", x.way(-1, 1, 0), NONE);
    }

    // ---- 12 to 18: by hand

    private static void goes() {
        about("promise 12");
        HopCredits x = new HopCredits();
        due("no NET", x.go(100), NONE);
        statusOf(x, 1, 0, 0, 0);
        feed(x, "h");
        x.net();
        due("go(0)", x.go(0), NONE);
        due("go(61)", x.go(61), NONE);
        due("go(-5)", x.go(-5), NONE);
        due("nothing went by", x.rule(5), 0);
        statusOf(x, 1, 3, 0, 0);
        due("go(60)", x.go(60), 60);
        due("go(1)", x.go(1), 61);
        turns();
        adapts();
    }

    private static void turns() {
        HopCredits x = net("h;c;c;c", 1);
        due("0 at first", x.hop(0, 5), 0);
        x.go(1);
        due("then 1", x.hop(0, 5), 1);
        x.go(1);
        due("then 2", x.hop(0, 5), 2);
        x.source(0, 0, 0);
        x.go(1);
        due("0 has cells still", x.hop(0, 5), 0);
        HopCredits y = net("h;c;cg0;c", 2);
        due("1 has none", y.hop(0, 5), 2);
        y.go(1);
        due("round", y.hop(0, 5), 0);
        HopCredits z = net("hb2;ct0;c", 3);
        due("one without CREDIT is passed", z.lane(0, 0, 0), 1);
        due("and the other sends", z.lane(0, 1, 0), 1);
    }

    private static void adapts() {
        HopCredits x = net("na4;hb8;c;cg0", 3);
        due("ZONE before", x.lane(0, 0, 3), 4);
        due("sent since", x.lane(0, 0, 8), 3);
        x.go(1);
        due("ZONE of the one that sent", x.lane(0, 0, 3), 7);
        due("ZONE of the other is RESERVE", x.lane(0, 1, 3), 1);
        due("sent since is 0", x.lane(0, 0, 8), 0);
        x.source(0, 0, 0);
        x.go(8);
        due("without any: by CIRCUITS", x.lane(0, 0, 3), 4);
        due("without any: by CIRCUITS", x.lane(0, 1, 3), 4);
        // circuit 0 has 4 OUT for ever; its ZONE falls to 1, but the other may have 8 less 4 alone
        HopCredits y = net("na10;hb8;ct0;cs5", 10);
        due("OUT", y.lane(0, 0, 4), 4);
        due("AIM is 1 and 6 by 9 times 4, cut", y.lane(0, 0, 3), 3);
        due("the lesser of AIM and room", y.lane(0, 1, 3), 4);
        y.go(10);
        due("falls further", y.lane(0, 0, 3), 1);
        due("never flows over", y.lane(0, 1, 3), 4);
    }

    private static void jams() {
        about("promise 13");
        HopCredits x = net("h;h");
        due("jam", x.jam(1, 9), 0);
        due("jam", x.jam(1, 2), 9);
        due("it is so", x.jam(1, 2), NONE);
        due("it is so", x.jam(0, 0), NONE);
        due("10", x.jam(0, 10), NONE);
        due("-1", x.jam(0, -1), NONE);
        due("no such HOP, first", x.jam(2, 10), NONE);
        due("no such HOP", x.jam(-1, 1), NONE);
        statusOf(x, 2, 2, 2, 0);
        due("JAMMED", x.hop(1, 3), 2);
        x.go(4);
        // taken in ticks 2 and 3: both updates of hop 1 are lost; those of hop 0 are not
        due("none left", x.hop(1, 3), 0);
        due("lost", x.count(3), 2);
        due("KNOWN", x.lane(1, 0, 2), 0);
        due("since the latest update: a lost one counts", x.lane(1, 0, 7), 0);
        x.go(2);
        due("healed by the next", x.lane(1, 0, 2), 3);
        HopCredits y = net("h");
        y.jam(0, 1);
        y.probe(0, 0);
        y.go(2);
        due("an answer is lost, too", y.count(3), 1);
        due("n is one less", y.hop(0, 3), 0);
    }

    private static void sources() {
        about("promise 14");
        HopCredits x = net("cg2s3;c");
        due("source", x.source(0, 9, 999), 2);
        due("source", x.source(0, 0, 0), 9);
        due("START alone", x.source(0, 0, 5), 0);
        due("both are so", x.source(0, 0, 5), NONE);
        due("GAP 10", x.source(0, 10, 5), NONE);
        due("GAP -1", x.source(0, -1, 5), NONE);
        due("START 1000", x.source(0, 1, 1000), NONE);
        due("START -1", x.source(0, 1, -1), NONE);
        due("no such", x.source(2, 99, 0), NONE);
        due("no such", x.source(-1, 1, 0), NONE);
        statusOf(x, 2, 4, 1, 0);
        due("GAP", x.circuit(0, 0), 0);
        due("START", x.circuit(0, 1), 5);
        x.source(0, 4, 2);
        x.go(11);
        due("comes in 2, 6, 10", x.circuit(0, 3), 3);
    }

    private static void takesTold() {
        about("promise 15");
        HopCredits x = net("c;ct0");
        due("takes", x.takes(0, 9), 1);
        due("takes", x.takes(0, 0), 9);
        due("it is so", x.takes(1, 0), NONE);
        due("10", x.takes(1, 10), NONE);
        due("-1", x.takes(1, -1), NONE);
        due("no such", x.takes(2, 10), NONE);
        due("no such", x.takes(-1, 1), NONE);
        statusOf(x, 2, 2, 1, 0);
        due("TAKES", x.circuit(0, 2), 0);
        x.takes(0, 4);
        x.go(12);
        due("taken in 4 and 8", x.circuit(0, 5), 2);
        x.go(1);
        due("and in 12", x.circuit(0, 5), 3);
    }

    private static void zones() {
        about("promise 16");
        HopCredits x = net("nr2;hb12;ct0;c", 20);
        due("below RESERVE", x.zone(0, 0, 1), NONE);
        due("above POOL", x.zone(0, 0, 13), NONE);
        due("it is so", x.zone(0, 0, 6), NONE);
        due("no room", x.zone(0, 0, 7), NONE);
        due("no such HOP", x.zone(1, 0, 6), NONE);
        due("no such CIRCUIT", x.zone(0, 2, 99), NONE);
        statusOf(x, 2, 2, 1, 1);
        due("less", x.zone(0, 0, 2), 6);
        due("what is OUT takes room", x.zone(0, 1, 7), NONE);
        statusOf(x, 2, 2, 1, 2);
        due("less", x.zone(0, 1, 3), 6);
        due("more again", x.zone(0, 1, 6), 3);
        due("ZONE", x.lane(0, 1, 3), 6);
        x.takes(0, 1);
        x.go(20);
        due("room, as that is GONE", x.zone(0, 1, 10), 6);
        due("no room", x.zone(0, 0, 3), NONE);
    }

    private static void probes() {
        about("promise 17");
        HopCredits x = net("np9;hb3;ct0", 6);
        due("WAITED", x.lane(0, 0, 6), 3);
        due("OUT", x.probe(0, 0), 3);
        due("it has WAITED 0", x.lane(0, 0, 6), 0);
        due("sent", x.count(4), 1);
        due("on it", x.hop(0, 7), 1);
        due("in its way", x.way(0, 2, 4), 1);
        due("no such HOP", x.probe(1, 0), NONE);
        due("no such CIRCUIT", x.probe(0, 1), NONE);
        due("no such", x.probe(-1, -1), NONE);
        statusOf(x, 3, 0, 0, 0);
        due("two of one TICK are two", x.probe(0, 0), 3);
        due("on it", x.hop(0, 7), 2);
        // a lost update, healed by hand
        HopCredits y = net("hb1");
        y.jam(0, 1);
        y.go(10);
        due("KNOWN", y.lane(0, 0, 2), 0);
        y.probe(0, 0);
        y.go(3);
        due("KNOWN", y.lane(0, 0, 2), 1);
        due("SENT", y.lane(0, 0, 0), 2);
    }

    private static void statuses() {
        about("promise 18");
        HopCredits x = net("h");
        statusOf(x, 0, 0, 0, 0);
        due("status(-1)", x.status(-1), NONE);
        due("status(4)", x.status(4), NONE);
        x.heldUp(5, 5);
        x.would(0, 0, 99, 1);
        x.laneAhead(0, 0, 0, 300);
        x.lane(9, 9, 9);
        x.end(99);
        statusOf(x, 0, 0, 0, 0);
    }

    // ---- 19 to 27: ahead

    private static void aheads() {
        about("promise 19");
        HopCredits x = net("na5p2;hd2b5e2;hd3;c;cg2t3", 7);
        x.jam(0, 2);
        HopCredits y = net("na5p2;hd2b5e2;hd3;c;cg2t3", 7);
        y.jam(0, 2);
        for (int i = 0; i < 9; i++) {
            y.go(3);
            int n = 3 * (i + 1);
            for (int what = 0; what < 10; what++) {
                due("laneAhead", x.laneAhead(1, 1, what, n), y.lane(1, 1, what));
                due("laneAhead", x.laneAhead(0, 0, what, n), y.lane(0, 0, what));
            }
            about("promise 20");
            due("bufferAhead", x.bufferAhead(1, 0, n), y.buffer(1, 0));
            about("promise 21");
            due("delivered", x.delivered(0, n), y.circuit(0, 5) - x.circuit(0, 5));
            due("delivered", x.delivered(1, n), y.circuit(1, 5) - x.circuit(1, 5));
            due("delivered", x.delivered(-1, n), y.count(2) - x.count(2));
            about("promise 19");
        }
        due("the TICK is as it was", x.rule(5), 7);
        due("n 0", x.laneAhead(0, 0, 0, 0), x.lane(0, 0, 0));
        due("n -1", x.laneAhead(0, 0, 0, -1), NONE);
        due("n 201", x.laneAhead(0, 0, 0, 201), NONE);
        due("what", x.laneAhead(0, 0, 10, 1), NONE);
        due("hop", x.laneAhead(2, 0, 0, 1), NONE);
        due("circuit", x.laneAhead(0, 2, 0, 1), NONE);
        due("n 200", net("h").laneAhead(0, 0, 0, 200), 200 % 64);
        about("promise 20");
        due("node", x.bufferAhead(3, 0, 1), NONE);
        due("circuit", x.bufferAhead(0, 2, 1), NONE);
        due("n", x.bufferAhead(0, 0, 201), NONE);
        due("n", x.bufferAhead(0, 0, -1), NONE);
        due("n 200", net("ct0").bufferAhead(0, 0, 200), 99);
        about("promise 21");
        due("n 0", x.delivered(-1, 0), 0);
        due("circuit", x.delivered(2, 1), NONE);
        due("circuit", x.delivered(-2, 1), NONE);
        due("n", x.delivered(-1, 201), NONE);
        due("n", x.delivered(0, -1), NONE);
        due("n 200", net("h").delivered(0, 200), 199);
    }

    private static void heldUps() {
        about("promise 22");
        due("the one to come", net("h").heldUp(0, 0), 1);
        due("START", net("cs5").heldUp(0, 0), 6);
        due("its turn", net("c;c").heldUp(0, 1), 2);
        due("hop 1", net("hd3;h").heldUp(1, 0), 4);
        due("never", net("cg0").heldUp(0, 0), NONE);
        due("zone 1, delay 4", net("hd4b1", 1).heldUp(0, 0), 8);
        HopCredits x = net("cg0");
        x.source(0, 1, 199);
        due("200", x.heldUp(0, 0), 200);
        x.source(0, 1, 200);
        due("201", x.heldUp(0, 0), NONE);
        due("hop", x.heldUp(1, 0), NONE);
        due("circuit", x.heldUp(0, 1), NONE);
    }

    private static void idles() {
        about("promise 23");
        due("zone 1", net("hb1").idle(0, 10), 5);
        due("always busy", net("hb2").idle(0, 200), 0);
        due("GAP 3", net("cg3").idle(0, 10), 6);
        due("GAP 0", net("cg0").idle(0, 200), 200);
        HopCredits x = net("cg0");
        x.probe(0, 0);
        due("cells alone count", x.idle(0, 5), 5);
        due("n 0", x.idle(0, 0), NONE);
        due("n 201", x.idle(0, 201), NONE);
        due("hop", x.idle(1, 1), NONE);
        due("hop", x.idle(-1, 1), NONE);
    }

    private static void mosts() {
        about("promise 24");
        // two CIRCUITS of a ZONE of 3; that of circuit 0 fills, as its cells are taken each third TICK alone
        HopCredits x = net("hb6;ct3;cg0");
        due("BUFFER", x.most(1, 0, 0, 20), 3);
        due("BUFFERS of the NODE", x.most(1, 1, 1, 20), 3);
        due("HOP and BUFFERS", x.most(1, 1, 2, 20), 3);
        due("likewise of the CIRCUIT", x.most(1, 1, 3, 20), 0);
        due("likewise of the CIRCUIT", x.most(1, 0, 3, 20), 3);
        due("n 1: what is on the HOP", x.most(1, 0, 3, 1), 1);
        due("n 1: none is there", x.most(1, 0, 0, 1), 0);
        HopCredits y = net("ct0;ct0", 30);
        due("NODE 0", y.most(0, 0, 1, 0), 48);
        due("one of NODE 0", y.most(0, 0, 0, 0) + y.most(0, 1, 0, 0), 48);
        y.source(0, 0, 0);
        y.source(1, 0, 0);
        y.takes(0, 1);
        y.takes(1, 1);
        due("now is most", y.most(1, 0, 2, 60), 12);
        due("NODE 0 has no HOP that ends there", y.most(0, 0, 2, 1), NONE);
        due("NODE 0 has no HOP that ends there", y.most(0, 0, 3, 1), NONE);
        due("node", y.most(2, 0, 0, 1), NONE);
        due("circuit", y.most(0, 2, 0, 1), NONE);
        due("what", y.most(1, 0, 4, 1), NONE);
        due("what", y.most(1, 0, -1, 1), NONE);
        due("n", y.most(1, 0, 0, 201), NONE);
        due("n", y.most(1, 0, 0, -1), NONE);
    }

    private static void healings() {
        about("promise 25");
        due("at first", net("h").healed(), 0);
        due("an update on its way", net("hd3", 4).healed(), 3);
        HopCredits x = net("hb1");
        x.jam(0, 1);
        x.go(2);
        due("never without PROBES", x.healed(), NONE);
        x.probe(0, 0);
        due("by hand", x.healed(), 3);
        HopCredits y = net("np3;hb1");
        y.jam(0, 1);
        y.go(2);
        due("by a probe", y.healed(), 4);
        y.jam(0, 2);
        due("two answers lost, too", y.healed(), 10);
        due("KNOWN behind by less than EVERY stays so", net("he2", 2).healed(), NONE);
        due("no NET", new HopCredits().healed(), NONE);
        due("as it was", y.rule(5), 2);
    }

    private static void losses() {
        about("promise 26");
        due("zone 1 is stuck by one", net("hb1").loss(1, 20), 9);
        due("zone 2 loses a TICK", net("hb2").loss(1, 20), 1);
        due("zone 2 is stuck by two", net("hb2").loss(2, 20), 17);
        due("zone 3 bears one", net("hb3").loss(1, 20), 0);
        HopCredits x = net("hb2");
        x.jam(0, 2);
        due("less than it is JAMMED now", x.loss(1, 20), -16);
        due("JAMMED as it was", x.hop(0, 3), 2);
        due("updates 0", x.loss(0, 20), HIDDEN);
        due("updates 10", x.loss(10, 20), HIDDEN);
        due("n 0", x.loss(1, 0), HIDDEN);
        due("n 201", x.loss(1, 201), HIDDEN);
        due("no NET", new HopCredits().loss(1, 1), HIDDEN);
    }

    private static void fairs() {
        about("promise 27");
        due("one alone", net("h").fair(50), 0);
        due("two in turns", net("c;c").fair(11), 0);
        due("two in turns", net("c;c").fair(10), 1);
        due("one has none", net("c;c;cg0").fair(11), 5);
        HopCredits x = net("c;c;c", 40);
        due("from now on", x.fair(30), 0);
        due("n 0", x.fair(0), NONE);
        due("n 201", x.fair(201), NONE);
        due("no NET", new HopCredits().fair(1), NONE);
    }

    // ---- 28 to 35

    private static void aloneLinks() {
        about("promise 28");
        HopCredits x = net("h", 5);
        due("zone 1", x.alone(1, 1, 1, 1, 10), 5);
        due("zone 2", x.alone(1, 1, 2, 1, 10), 10);
        due("delay 4", x.alone(4, 1, 8, 1, 200), 200);
        due("zone below EVERY", x.alone(1, 4, 3, 1, 50), 3);
        due("takes each 9th", x.alone(1, 1, 30, 9, 200), 52);
        due("one TICK", x.alone(4, 4, 30, 9, 1), 1);
        for (int[] bad : new int[][] {{0, 1, 1, 1, 1}, {5, 1, 1, 1, 1}, {1, 0, 1, 1, 1}, {1, 5, 1, 1, 1},
            {1, 1, 0, 1, 1}, {1, 1, 31, 1, 1}, {1, 1, 1, 0, 1}, {1, 1, 1, 10, 1}, {1, 1, 1, 1, 0}, {1, 1, 1, 1, 201}}) {
            due("out of bounds", x.alone(bad[0], bad[1], bad[2], bad[3], bad[4]), NONE);
        }
        due("the NET is as it was", x.rule(5), 5);
        about("promise 29");
        due("full", x.full(4, 1, 1, 200), 8);
        due("EVERY", x.full(1, 4, 1, 200), 5);
        due("one TICK", x.full(4, 4, 9, 1), 1);
        due("as many as ZONE 30 by no other", x.full(1, 1, 9, 200), 30);
        for (int[] bad : new int[][] {{0, 1, 1, 1}, {5, 1, 1, 1}, {1, 0, 1, 1}, {1, 5, 1, 1}, {1, 1, 0, 1},
            {1, 1, 10, 1}, {1, 1, 1, 0}, {1, 1, 1, 201}}) {
            due("out of bounds", x.full(bad[0], bad[1], bad[2], bad[3]), NONE);
        }
        about("promise 30");
        due("law", x.law(4, 4, 1), 11);
        due("cut upwards", x.law(4, 1, 3), 3);
        due("cut upwards", x.law(1, 1, 9), 1);
        for (int[] bad : new int[][] {{0, 1, 1}, {5, 1, 1}, {1, 0, 1}, {1, 5, 1}, {1, 1, 0}, {1, 1, 10}}) {
            due("out of bounds", x.law(bad[0], bad[1], bad[2]), NONE);
        }
    }

    private static void aims() {
        about("promise 31");
        HopCredits x = net("nr2;hb13;c;cg2s1;cg0");
        due("without any", x.aim(0, 0), 4);
        x.go(3);
        // sent: 0, 1, 0
        due("two of three", x.aim(0, 0), 6);
        due("one of three", x.aim(0, 1), 4);
        due("none", x.aim(0, 2), 2);
        due("ZONE as it was", x.lane(0, 2, 3), 4);
        due("hop", x.aim(1, 0), NONE);
        due("circuit", x.aim(0, 3), NONE);
        about("promise 32");
        due("room", x.room(0, 0), 5);
        due("zone of it", x.zone(0, 0, 5), 4);
        due("room", x.room(0, 0), 5);
        due("room of another", x.room(0, 2), 4);
        x.zone(0, 1, 2);
        due("room of another", x.room(0, 2), 6);
        due("hop", x.room(1, 0), NONE);
        due("circuit", x.room(0, -1), NONE);
    }

    private static void trips() {
        about("promise 33");
        HopCredits x = net("ct3", 3);
        due("none yet", x.trip(0, 0), NONE);
        x.go(7);
        // those of ticks 0, 1, 2 are taken in 3, 6, 9
        due("latest", x.trip(0, 0), 7);
        due("longest", x.trip(0, 1), 7);
        due("all", x.trip(0, 2), 15);
        due("what", x.trip(0, 3), NONE);
        due("what", x.trip(0, -1), NONE);
        due("circuit", x.trip(1, 0), NONE);
        due("circuit", x.trip(-1, 0), NONE);
        about("promise 34");
        due("came in 3", x.oldest(0), 7);
        due("circuit", x.oldest(1), NONE);
        due("none", net("cg0", 5).oldest(0), NONE);
        due("in the SOURCE", net("hb1;ct0", 3).oldest(0), 3);
        about("promise 33");
        x.takes(0, 1);
        x.source(0, 0, 0);
        x.go(20);
        due("longest", x.trip(0, 1), 7);
        due("latest", x.trip(0, 0), 7);
        due("oldest", x.oldest(0), NONE);
        HopCredits y = net("ct9", 20);
        y.takes(0, 1);
        y.source(0, 9, 27);
        y.go(60);
        due("latest is short again", y.trip(0, 0), 1);
    }

    private static void learnings() {
        about("promise 35");
        due("now", net("h").learns(0, 0), 0);
        due("on its way", net("hd3", 4).learns(0, 0), 3);
        due("further by the next", net("he2", 2).learns(0, 0), 2);
        HopCredits x = net("hb1");
        x.jam(0, 1);
        x.go(2);
        due("never", x.learns(0, 0), NONE);
        HopCredits y = net("np3;hb1");
        y.jam(0, 1);
        y.go(2);
        due("by a probe", y.learns(0, 0), 4);
        // the next cell comes in TICK s, is taken in s and 1, its update comes in s and 2; TICK is 2 now
        HopCredits z = net("he2;cg9", 2);
        z.source(0, 9, 199);
        due("200", z.learns(0, 0), 200);
        z.source(0, 9, 200);
        due("201", z.learns(0, 0), NONE);
        due("hop", y.learns(1, 0), NONE);
        due("circuit", y.learns(0, 1), NONE);
    }

    // ---- 36 to 43

    private static void stucks() {
        about("promise 36");
        due("no NET", new HopCredits().stuck(), false);
        due("no cells", net("cg0").stuck(), false);
        due("no cells yet", net("h").stuck(), false);
        due("it goes on", net("h", 5).stuck(), false);
        HopCredits x = net("hb1;ct0", 5);
        due("stuck", x.stuck(), true);
        x.takes(0, 9);
        due("not stuck", x.stuck(), false);
        HopCredits z = net("hb2;ct0;cg0", 5);
        z.source(1, 1, 204);
        due("until the 200th TICK", z.stuck(), false);
        z.source(1, 1, 205);
        due("until the 201st TICK", z.stuck(), true);
        HopCredits y = net("hb1");
        y.jam(0, 1);
        y.go(3);
        due("by a loss", y.stuck(), true);
        y.probe(0, 0);
        due("until it is told", y.stuck(), false);
        due("by a loss, with PROBES", lostOnce("np9;hb1").stuck(), false);
    }

    private static HopCredits lostOnce(String text) {
        HopCredits x = net(text);
        x.jam(0, 1);
        x.go(3);
        return x;
    }

    private static void woulds() {
        about("promise 37");
        HopCredits x = net("hd2b12");
        due("zone 1", x.would(0, 0, 1, 20), 5);
        due("zone 2", x.would(0, 0, 2, 20), 10);
        due("zone 3", x.would(0, 0, 3, 20), 14);
        due("zone 4", x.would(0, 0, 4, 20), 18);
        due("n 0", x.would(0, 0, 4, 0), 0);
        due("n 200", x.would(0, 0, 4, 200), 198);
        due("it is so", x.would(0, 0, 12, 20), NONE);
        due("bounds", x.would(0, 0, 13, 20), NONE);
        due("bounds", x.would(0, 0, 0, 20), NONE);
        due("n 201", x.would(0, 0, 4, 201), NONE);
        due("n -1", x.would(0, 0, 4, -1), NONE);
        due("hop", x.would(1, 0, 4, 1), NONE);
        due("circuit", x.would(0, 1, 4, 1), NONE);
        due("no room", net("c;c").would(0, 0, 7, 1), NONE);
        due("ZONE as it was", x.lane(0, 0, 3), 12);
        about("promise 38");
        due("least by which most", x.bestZone(0, 0, 20), 4);
        due("two TICKS: none comes", x.bestZone(0, 0, 2), 1);
        due("as it is", net("hd2b4").bestZone(0, 0, 20), 4);
        due("room alone", net("hd4b8;c;cg0").bestZone(0, 0, 60), 4);
        due("RESERVE", net("nr3").bestZone(0, 0, 1), 3);
        due("n 0", x.bestZone(0, 0, 0), NONE);
        due("n 61", x.bestZone(0, 0, 61), NONE);
        due("hop", x.bestZone(1, 0, 1), NONE);
        due("circuit", x.bestZone(0, 1, 1), NONE);
    }

    private static void bearings() {
        about("promise 39");
        due("none", net("hb2").bears(20), 0);
        due("one", net("hb3").bears(20), 1);
        due("all", net("hb12").bears(20), 9);
        due("too few TICKS to tell", net("hb1").bears(2), 9);
        HopCredits x = net("hb2");
        x.jam(0, 9);
        due("than as it is", x.bears(20), 9);
        due("JAMMED as it was", x.hop(0, 3), 9);
        due("n 0", x.bears(0), NONE);
        due("n 201", x.bears(201), NONE);
        due("no NET", new HopCredits().bears(1), NONE);
    }

    private static void waitings() {
        about("promise 40");
        HopCredits x = net("h;hb1;c;cg0");
        due("hop 1", x.waits(1, 0, 10), 8);
        due("hop 0", x.waits(0, 0, 10), 0);
        due("another", x.waits(1, 1, 200), 0);
        due("hop", x.waits(2, 0, 10), NONE);
        due("circuit", x.waits(0, 2, 10), NONE);
        due("n 0", x.waits(0, 0, 0), NONE);
        due("n 201", x.waits(0, 0, 201), NONE);
        about("promise 41");
        due("worst", x.worst(0, 10), 1);
        due("none", x.worst(1, 10), NONE);
        due("of several the lowest", waitingBoth().worst(0, 9), 0);
        due("circuit", x.worst(2, 10), NONE);
        due("circuit", x.worst(-1, 10), NONE);
        due("n 0", x.worst(0, 0), NONE);
        due("n 201", x.worst(0, 201), NONE);
        about("promise 42");
        due("busiest", x.busiest(1), 0);
        due("of several the lowest", net("h;h;cg0").busiest(200), 0);
        HopCredits y = net("h;h", 1);
        y.source(0, 0, 0);
        due("busiest", y.busiest(5), 1);
        due("n 0", y.busiest(0), NONE);
        due("n 201", y.busiest(201), NONE);
        due("no NET", new HopCredits().busiest(1), NONE);
    }

    private static HopCredits waitingBoth() {
        return net("hb1;hb1;ct0", 20);
    }

    private static void counts() {
        about("promise 43");
        HopCredits x = new HopCredits();
        for (int what = -1; what <= 6; what++) {
            due("count(" + what + ")", x.count(what), what == 0 ? 0 : HIDDEN);
        }
        feed(x, "np2;hb1;h;c;c");
        due("bytes", x.count(0), 13);
        x.net();
        due("bytes", x.count(0), 0);
        due("cells", x.count(1), 0);
        x.jam(0, 1);
        x.go(2);
        // POOL 2 of two: each sent one over hop 0; circuit 0's went on in tick 1, its update lost
        due("cells", x.count(1), 4);
        due("DELIVERED", x.count(2), 0);
        due("lost", x.count(3), 1);
        due("probes", x.count(4), 0);
        due("KNOWN that are not GONE", x.count(5), 1);
        x.go(1);
        due("DELIVERED", x.count(2), 1);
        due("probes of both", x.count(4), 2);
        due("count(6)", x.count(6), HIDDEN);
        due("count(-1)", x.count(-1), HIDDEN);
    }

    public static void main(String[] args) {
        newObject();
        feeds();
        ends();
        faults();
        nets();
        rules();
        hops();
        circuits();
        lanes();
        buffers();
        ways();
        goes();
        jams();
        sources();
        takesTold();
        zones();
        probes();
        statuses();
        aheads();
        heldUps();
        idles();
        mosts();
        healings();
        losses();
        fairs();
        aloneLinks();
        aims();
        trips();
        learnings();
        stucks();
        woulds();
        bearings();
        waitings();
        counts();
        finish("all promises hold");
    }
}
