/** The edges of promises 1 to 6: what the TAPE holds, where a TEXT can no longer go on, what NET it is then. */
public final class TextEdgesTest extends Due {
    private static final String[] HEADS = {"n", "h", "c"};
    private static final String[] LETTERS = {"rap", "dbe", "gst"};
    private static final int[][] LOWS = {{1, 0, 0}, {1, 1, 1}, {0, 0, 0}};
    private static final int[][] HIGHS = {{4, 20, 9}, {4, 30, 4}, {9, 20, 9}};
    private static final int[][] WITHOUT = {{1, 0, 0}, {1, 12, 1}, {1, 0, 1}};

    private static final String SIX_CLAUSES = "h;h;h;c;c;c";

    /** What the NET tells of an item of its n, its HOP 0 or its CIRCUIT 0. */
    private static int laid(HopCredits x, int kind, int item) {
        if (kind == 0) {
            return x.rule(2 + item);
        }
        return kind == 1 ? x.hop(0, item) : x.circuit(0, item);
    }

    // ---- the TAPE

    private static void oneHundredAndSixty() {
        about("feed NONE: more than 160");
        for (int more = 0; more <= 20; more++) {
            HopCredits x = tape("x".repeat(160 - more));
            due("160 from " + (160 - more), feed(x, "y".repeat(more)), 160);
        }
        for (int more = 1; more <= 20; more++) {
            HopCredits x = tape("x".repeat(161 - more));
            due("161 from " + (161 - more), feed(x, "y".repeat(more)), NONE);
            due("nothing of it came", x.count(0), 161 - more);
            statusOf(x, 0, 0, 0, 0);
        }
        HopCredits full = tape("x".repeat(160));
        due("bytes of 0 are none", full.feed(0, 0, 0, 0, 0), 160);
        full.end(0);
        due("there is room again", feed(full, "h"), 1);
    }

    private static void zerosLeftOut() {
        about("feed: bytes of 0 are left out");
        due("twenty of them", new HopCredits().feed(0, 0, 0, 0, 0), 0);
        String text = "nr2a3p4;hd2b9e3;cg7t";
        for (int gap = 0; gap < 20; gap++) {
            String fed = text.substring(0, gap) + (char) 0 + text.substring(gap, 19);
            HopCredits x = new HopCredits();
            due("feed", feed(x, fed), 19);
            due("net", x.net(), 1);
            due("GAP, the last byte", x.circuit(0, 0), 7);
            due("DELAY", x.hop(0, 0), 2);
        }
    }

    private static void highestFirst() {
        about("feed: of each number the highest first");
        HopCredits x = new HopCredits();
        due("feed", x.feed(0x6E723261, 0x33703420, 0x3B686432, 0x62396533, 0x3B636735), 20);
        due("net", x.net(), 1);
        int[][] want = {{2, 3, 4}, {2, 9, 3}, {5, 0, 1}};
        for (int kind = 0; kind < 3; kind++) {
            for (int item = 0; item < 3; item++) {
                due(HEADS[kind] + LETTERS[kind].charAt(item), laid(x, kind, item), want[kind][item]);
            }
        }
        for (int sign = 1; sign <= 255; sign++) {
            due("the highest byte is " + sign, new HopCredits().feed(sign << 24, 0, 0, 0, 0), 1);
            due("the lowest byte is " + sign, new HopCredits().feed(0, 0, 0, 0, sign), 1);
        }
    }

    private static void firstBytesAlone() {
        about("end: its first n bytes alone. False: n");
        HopCredits x = tape("hd3x;");
        due("end(-1)", x.end(-1), false);
        due("end(6)", x.end(6), false);
        due("end(LEAST)", x.end(LEAST), false);
        due("end(LARGEST)", x.end(LARGEST), false);
        due("as it was", x.count(0), 5);
        due("end(5)", x.end(5), true);
        due("as it was", x.fault(), 3);
        due("end(3)", x.end(3), true);
        due("what was behind is gone", x.end(4), false);
        due("other bytes come behind the first", feed(x, "b7"), 5);
        x.net();
        due("DELAY", x.hop(0, 0), 3);
        due("POOL", x.hop(0, 1), 7);
        due("an empty TAPE, end(1)", x.end(1), false);
        due("an empty TAPE, end(0)", x.end(0), true);
        HopCredits full = tape("x".repeat(160));
        due("end(161)", full.end(161), false);
        due("end(160)", full.end(160), true);
        due("end(159)", full.end(159), true);
        due("count(0)", full.count(0), 159);
        statusOf(full, 0, 0, 0, 0);
    }

    // ---- where a TEXT can no longer go on

    /** Behind the TEXT each byte there is: a fault at it, if it is none of these. */
    private static void goesOnBy(String text, String signs) {
        for (int sign = 1; sign <= 255; sign++) {
            String longer = text + (char) sign;
            boolean wrongAtIt = tape(longer).fault() == text.length();
            due("a fault at the last byte (" + sign + ") of \"" + longer + "\"", wrongAtIt, signs.indexOf(sign) < 0);
        }
    }

    private static void signsThatGoOn() {
        about("FAULT: the first byte at which no such TEXT can go on");
        goesOnBy("", " nhc");
        goesOnBy(" ", " nhc");
        goesOnBy("n", " ;rap");
        goesOnBy("h", " ;dbe");
        goesOnBy("c", " ;gst");
        goesOnBy("n;", " hc");
        goesOnBy("h;", " hc");
        goesOnBy("c;", " hc");
        goesOnBy("n; ", " hc");
        goesOnBy("h;h;h;", " c");
        goesOnBy("c;c;c;", " h");
        goesOnBy("h;h;", " hc");
        goesOnBy("c;c;", " hc");
        goesOnBy(SIX_CLAUSES + ";", " ");
        goesOnBy(SIX_CLAUSES, " ;gst");
        goesOnBy("nr", " 1234");
        goesOnBy("na", " 0123456789");
        goesOnBy("np", " 0123456789");
        goesOnBy("hd", " 1234");
        goesOnBy("hb", " 123456789");
        goesOnBy("he", " 1234");
        goesOnBy("cg", " 0123456789");
        goesOnBy("cs", " 0123456789");
        goesOnBy("ct", " 0123456789");
        goesOnBy("nr1", " ;ap");
        goesOnBy("na1", " ;rp0123456789");
        goesOnBy("na2", " ;rp0");
        goesOnBy("na20", " ;rp");
        goesOnBy("np9", " ;ra");
        goesOnBy("hd4", " ;be");
        goesOnBy("hb3", " ;de0");
        goesOnBy("hb30", " ;de");
        goesOnBy("hb29", " ;de");
        goesOnBy("he4", " ;db");
        goesOnBy("cg9", " ;st");
        goesOnBy("cs2", " ;gt0");
        goesOnBy("cs1", " ;gt0123456789");
        goesOnBy("cs20", " ;gt");
        goesOnBy("ct09", " ;gs");
        goesOnBy("nr1a0", " ;p0123456789");
        goesOnBy("cg1 s1 t1", " ;");
        goesOnBy("hb3 ", " ;de");
    }

    private static void endsTooEarly() {
        about("FAULT: the length, if it ends too early");
        for (String text : new String[] {"", " ", "   ", "n;", "h;", "c;", "h; ", "nr", "hd", "ct", "hd ", "h;h;c;", "cg1s",
            SIX_CLAUSES + ";"}) {
            faultOf(text, text.length());
        }
        String whole = "nr2;hd3;cg0";
        for (int n = 0; n <= whole.length(); n++) {
            HopCredits x = tape(whole);
            x.end(n);
            boolean ended = n == 1 || n == 3 || n == 5 || n == 7 || n == 9 || n == 11;
            due("fault() of the first " + n, x.fault(), ended ? NONE : n);
        }
    }

    private static void textOfWholeTape() {
        about("FAULT of a TAPE of 160 bytes");
        String blanks = " ".repeat(157);
        faultOf("h  " + blanks, NONE);
        faultOf("hd2" + blanks, NONE);
        faultOf("h" + blanks + "d2", NONE);
        faultOf("hb" + blanks + "2", NONE);
        faultOf("h" + blanks + "de", 159);
        faultOf("hd2" + blanks.substring(1) + "b", 160);
        faultOf("h " + blanks + ";", 160);
        faultOf("h  " + blanks.substring(2) + ";h", NONE);
        faultOf("   " + blanks, 160);
        faultOf("c " + blanks + "h", 159);
        about("FAULT: of the bytes that the TAPE has alone");
        HopCredits x = tape("hd1 2; x");
        x.end(3);
        due("a blank, a digit are behind it", x.fault(), NONE);
        x.end(2);
        due("a digit is behind it", x.fault(), 2);
        x.end(1);
        due("a letter is behind it", x.fault(), NONE);
    }

    private static void ofSeveralTheFirst() {
        about("FAULT: the first byte");
        faultOf("hd5;he5", 2);
        faultOf("hd4;he5", 6);
        faultOf("hx;", 1);
        faultOf("h;n;n", 2);
        faultOf("cg1g2;x", 3);
        faultOf("nr1;n;h;h;h;h", 4);
        faultOf("h;h;h;h;x", 6);
    }

    // ---- numbers

    private static void boundsOfItems() {
        for (int kind = 0; kind < 3; kind++) {
            for (int item = 0; item < 3; item++) {
                String head = HEADS[kind] + LETTERS[kind].charAt(item);
                about("bounds of " + head);
                for (int value = 0; value <= 99; value++) {
                    if (value <= 9) {
                        boundOf(head + value, kind, item, value);
                        boundOf(head + " " + value, kind, item, value);
                        boundOf(head + "0" + value, kind, item, value);
                    } else {
                        boundOf(head + value, kind, item, value);
                    }
                }
            }
        }
    }

    private static void boundOf(String text, int kind, int item, int value) {
        int last = text.length() - 1;
        if (value < LOWS[kind][item] || value > HIGHS[kind][item]) {
            faultOf(text, last);
            faultOf(text + ";", last);
            faultOf(text + " ", last);
            faultOf(text + " 1", last);
            due("no NET of it", tape(text).net(), NONE);
            return;
        }
        faultOf(text, NONE);
        faultOf(text + ";c", NONE);
        due(text, laid(net(text), kind, item), value);
    }

    private static void thirdDigits() {
        about("a third digit itself, whatever stands ahead of it");
        for (int kind = 0; kind < 3; kind++) {
            for (int item = 0; item < 3; item++) {
                String head = HEADS[kind] + LETTERS[kind].charAt(item);
                for (String number : new String[] {"000", "001", "010", "099", "100", "111", "205", "310", "999"}) {
                    faultOf(head + number, 4);
                    faultOf(head + number + "9", 4);
                    faultOf(head + "  " + number + ";h", 6);
                }
            }
        }
    }

    private static void numbersWithoutDigits() {
        about("a number (one or two digits)");
        faultOf("hd;h", 2);
        faultOf("hd b1", 3);
        faultOf("hde1", 2);
        faultOf("cg-1", 2);
        faultOf("cg+1", 2);
        faultOf("cg/", 2);
        faultOf("cg:", 2);
        faultOf("nr1.", 3);
    }

    private static void withoutItems() {
        about("a NET without ITEMS");
        for (String text : new String[] {"n", "h", "c", "n;h;c", "c;h"}) {
            HopCredits x = net(text);
            for (int kind = 0; kind < 3; kind++) {
                for (int item = 0; item < 3; item++) {
                    due(text + ", " + LETTERS[kind].charAt(item), laid(x, kind, item), WITHOUT[kind][item]);
                }
            }
        }
    }

    // ---- letters, CLAUSES, blanks

    private static void eachLetterOnce() {
        about("a letter, each once at most in a CLAUSE");
        int[][] orders = {{0, 1, 2}, {0, 2, 1}, {1, 0, 2}, {1, 2, 0}, {2, 0, 1}, {2, 1, 0}};
        for (int kind = 0; kind < 3; kind++) {
            for (int[] order : orders) {
                StringBuilder text = new StringBuilder(HEADS[kind]);
                for (int k = 0; k < 3; k++) {
                    text.append(LETTERS[kind].charAt(order[k])).append(1 + k);
                    faultOf(text.toString(), NONE);
                    for (int was = 0; was <= k; was++) {
                        faultOf(text.toString() + LETTERS[kind].charAt(order[was]) + "1", text.length());
                    }
                }
                for (int k = 0; k < 3; k++) {
                    due(text.toString(), laid(net(text.toString()), kind, order[k]), 1 + k);
                }
            }
        }
        faultOf("hd1;hd1;hd1", NONE);
        faultOf("cg1;cg1;h;cg1", NONE);
    }

    /** All CLAUSES of HOPS and CIRCUITS in all orders, none to three of each, with n ahead and without. */
    private static void clausesInAnyOrder(String text, int hops, int circuits) {
        if (!text.isEmpty()) {
            due("net() of " + text, tape(text).net(), Math.max(1, circuits));
            due("HOPS of " + text, net(text).rule(0), Math.max(1, hops));
            due("CIRCUITS of " + text, net(text).rule(1), Math.max(1, circuits));
            faultOf(text + ";n", text.length() + 1);
        }
        String more = text.isEmpty() ? "" : text + ";";
        if (hops < 3) {
            clausesInAnyOrder(more + "h", hops + 1, circuits);
        } else {
            faultOf(more + "h", more.length());
        }
        if (circuits < 3) {
            clausesInAnyOrder(more + "c", hops, circuits + 1);
        } else {
            faultOf(more + "c", more.length());
        }
    }

    private static void eachItsOwnItems() {
        about("h, c, in any order, then ITEMS");
        HopCredits x = net("hd2;cg3s4;hb5e2;cg5t0;cg7;hd4");
        int[][] hops = {{2, 12, 1}, {1, 5, 2}, {4, 12, 1}};
        int[][] circuits = {{3, 4, 1}, {5, 0, 0}, {7, 0, 1}};
        for (int k = 0; k < 3; k++) {
            for (int what = 0; what < 3; what++) {
                due("hop(" + k + ", " + what + ")", x.hop(k, what), hops[k][what]);
                due("circuit(" + k + ", " + what + ")", x.circuit(k, what), circuits[k][what]);
            }
        }
        faultOf("nr1h", 3);
        faultOf("h c", 2);
        faultOf("hd1c", 3);
    }

    private static void blanks() {
        about("Blanks (32) may stand between all signs, not within a number");
        String text = "nr2a3p4;hd2b10e3;cg5s12t6;h;c";
        for (int at = 0; at <= text.length(); at++) {
            boolean within = at > 0 && at < text.length() && Character.isDigit(text.charAt(at - 1))
                && Character.isDigit(text.charAt(at));
            String front = text.substring(0, at);
            String back = text.substring(at);
            faultOf(front + " " + back, within ? at + 1 : NONE);
            faultOf(front + "   " + back, within ? at + 3 : NONE);
            for (int sign : new int[] {9, 10, 11, 12, 13, 31, 33, 95, 160, 255}) {
                faultOf(front + (char) sign + back, at);
            }
        }
        faultOf("hb0 5", 2);
        faultOf("hb3 0", 4);
        due("NET with blanks", net(" n  r 2 ; h b 10 ;c").hop(0, 1), 10);
    }

    // ---- the NET

    private static void poolOfReserves() {
        about("A POOL that is less than RESERVE for each CIRCUIT is that");
        for (int reserve = 1; reserve <= 4; reserve++) {
            for (int circuits = 1; circuits <= 3; circuits++) {
                for (int told = 1; told <= 30; told++) {
                    HopCredits x = net("nr" + reserve + ";hb" + told + ";c".repeat(circuits));
                    int pool = Math.max(told, reserve * circuits);
                    due("POOL " + told + " for " + circuits + " of " + reserve, x.hop(0, 1), pool);
                    for (int c = 0; c < circuits; c++) {
                        due("ZONES are POOL by CIRCUITS, cut", x.lane(0, c, 3), pool / circuits);
                    }
                }
            }
        }
        HopCredits y = net("nr4;h;hb11;hb13;c;c;c");
        due("12 without", y.hop(0, 1), 12);
        due("11 is 12", y.hop(1, 1), 12);
        due("13", y.hop(2, 1), 13);
    }

    private static void netRefused() {
        about("net NONE: a FAULT (the TAPE stays)");
        HopCredits x = net("hd2;c;c", 9);
        x.go(61);
        HopCredits same = net("hd2;c;c", 9);
        feed(x, "hd5");
        feed(same, "hd5");
        due("net", x.net(), NONE);
        due("all stays", told(x), told(same));
        statusOf(x, 0, 1, 0, 0);
        x.end(2);
        due("it ends too early", x.net(), NONE);
        x.end(0);
        due("it is empty", x.net(), NONE);
        due("the NET stays", x.rule(5), 9);
    }

    private static void allOfAnotherIsGone() {
        about("net: all that was of another one is gone but STATUS");
        String[] texts = {"na3p2;hd4b3e2;hd2;hd3;c;cg2t0;cg3", "h", "np1;h;h;c;c", "nr2a9;hd2b20;hd4;h;ct3;c;c", "hb1;ct9"};
        for (String before : texts) {
            for (String text : texts) {
                for (int ticks : new int[] {0, 31}) {
                    HopCredits x = used(before);
                    int[] status = {x.status(0), x.status(1), x.status(2), x.status(3)};
                    feed(x, text);
                    x.net();
                    go(x, ticks);
                    due(text + " behind " + before + ", TICK " + ticks, told(x), told(net(text, ticks)));
                    statusOf(x, status[0], status[1], status[2], status[3]);
                }
            }
        }
    }

    /** SPILT cells, long TRIPS, things on each HOP, and something of each of STATUS. */
    private static HopCredits used(String text) {
        HopCredits x = net(text);
        x.jam(0, 7);
        go(x, 205);
        for (int h = 0; h < x.rule(0); h++) {
            for (int c = 0; c < x.rule(1); c++) {
                x.probe(h, c);
            }
        }
        x.zone(0, 0, x.rule(2));
        x.go(61);
        x.jam(9, 9);
        x.jam(0, x.hop(0, 3));
        x.laneAhead(0, 0, 0, 9);
        return x;
    }

    private static void allIsZeroAtFirst() {
        about("At first all is 0; TICK 0");
        HopCredits x = net("nr3a4p5;hd2b20e3;hd3b9e2;cg2s3t4;cg5s6t7");
        due("all", told(x), "2 0 2 0 3 0 4 0 5 0 0 0 "
            + "\nHOP 0: 2 20 3 0 0 -1 0 0" + " -1".repeat(25) + " / 0 0 0 10 0 10 0 0 0 0".repeat(2)
            + "\nHOP 1: 3 9 2 0 0 -1 0 0" + " -1".repeat(25) + " / 0 0 0 4 0 4 0 0 0 0".repeat(2)
            + "\nCIRCUIT 0: 2 3 4 0 0 0 0 0 0 0 -1 -1 -1 -1\n\nCIRCUIT 1: 5 6 7 0 0 0 0 0 0 0 -1 -1 -1 -1\n0");
    }

    private static void noNet() {
        about("A new object: no NET");
        HopCredits x = new HopCredits();
        for (int what = -1; what <= 6; what++) {
            due("rule(" + what + ")", x.rule(what), HIDDEN);
            due("count(" + what + ")", x.count(what), what == 0 ? 0 : HIDDEN);
        }
        due("net of nothing", x.net(), NONE);
        due("fault of nothing", x.fault(), 0);
        feed(x, "h;c");
        due("a TAPE is no NET yet", x.rule(0), HIDDEN);
        due("count(0)", x.count(0), 3);
        due("net", x.net(), 1);
        due("rule(0)", x.rule(0), 1);
        due("rule(5)", x.rule(5), 0);
        due("rule(-1)", x.rule(-1), HIDDEN);
        due("rule(6)", x.rule(6), HIDDEN);
        due("rule(LEAST)", x.rule(LEAST), HIDDEN);
        due("rule(LARGEST)", x.rule(LARGEST), HIDDEN);
    }

    public static void main(String[] args) {
        oneHundredAndSixty();
        zerosLeftOut();
        highestFirst();
        firstBytesAlone();
        signsThatGoOn();
        endsTooEarly();
        textOfWholeTape();
        ofSeveralTheFirst();
        boundsOfItems();
        thirdDigits();
        numbersWithoutDigits();
        withoutItems();
        eachLetterOnce();
        about("h, c: none to 3; one if none is told; an n that is not first; a fourth h, c");
        clausesInAnyOrder("", 0, 0);
        clausesInAnyOrder("n", 0, 0);
        eachItsOwnItems();
        blanks();
        poolOfReserves();
        netRefused();
        allOfAnotherIsGone();
        allIsZeroAtFirst();
        noNet();
        finish("the edges of the TAPE and its TEXT hold");
    }
}
