/** The edges of Terms IV and of promises 29 to 35: saves, breach, ram, ramBy, hold, stand, theft. */
public final class EdgeBreachTest {
    private static final Check CHECK = new Check("EdgeBreachTest");
    private static final int LOWEST = Integer.MIN_VALUE;
    private static final int HIGHEST = Integer.MAX_VALUE;
    private static final int[] NO_SIZES = {0, -1, 100, LOWEST, HIGHEST};
    private static final String CARTS = ";cart ka in 0 bears 99;cart kb in 1 bears 99";

    public static void main(String[] args) {
        savesArguments();
        savesIfThatIsMore();
        savesAll();
        savesByCut();
        breachArguments();
        breachFirst();
        breachesChangeNothing();
        ramArguments();
        ramEdges();
        ramAlone();
        ramByArguments();
        ramByEdges();
        holdArguments();
        holdDownwards();
        stand();
        theftArguments();
        theftHours();
        theftThereAndBack();
        theftInByOneOutByAnother();
        theftByAllGates();
        theftFits();
        theftCut();
        theftRoundTheRings();
        CHECK.end();
    }

    private static String gate(String name, int ring, int place, int wide, int high, int toll) {
        return ";gate " + name + " in " + ring + " at " + place + " wide " + wide + " high " + high + " hands 1 toll " + toll;
    }

    private static String good(String name, int length, int wide, int high, String behind) {
        return ";good x" + name + " long " + length + " wide " + wide + " high " + high + " weighs 1" + behind;
    }

    private static String order(String name, String good, int toRing) {
        return ";order " + name + " of x" + good + " from 0,0 to " + toRing + ",0 hour 0";
    }

    // -- promise 29

    private static void savesArguments() {
        CHECK.promise(29, "saves");
        NarrowRings none = new NarrowRings();
        CHECK.due("no CITY", none, none.saves(0, 1, 1), -10000, 1);
        NarrowRings x = Check.city("rings 9,9" + gate("g", 0, 0, 1, 1, 0) + gate("h", 0, 0, 1, 1, 0));
        for (int bad : new int[] {-1, 2, LOWEST, HIGHEST}) {
            CHECK.due("gate " + bad, x, x.saves(bad, 1, 1), -10000, 1);
            CHECK.due("1 ahead of 2, gate " + bad, x, x.saves(bad, 0, 100), -10000, 1);
        }
        for (int bad : NO_SIZES) {
            CHECK.due("wide " + bad, x, x.saves(1, bad, 1), -10000, 2);
            CHECK.due("high " + bad, x, x.saves(1, 1, bad), -10000, 2);
        }
        CHECK.due("the least", x, x.saves(0, 1, 1), 0, 0);
        CHECK.due("the greatest", x, x.saves(1, 99, 99), 0, 0);
        CHECK.due("least and greatest", x, x.saves(1, 1, 99), 0, 0);
        CHECK.due("greatest and least", x, x.saves(1, 99, 1), 0, 0);
        CHECK.due("dig", x.dig(0, 0, 1, 1, 1, 0), 2);
        CHECK.due("the one that is dug", x, x.saves(2, 9, 9), 0, 0);
        NarrowRings y = Check.city("rings 9,9");
        CHECK.due("no gate", y, y.saves(0, 1, 1), -10000, 1);
    }

    /** As wide or as high as told only if that is more: each alone does not let the good in, nor does less spoil. */
    private static void savesIfThatIsMore() {
        CHECK.promise(29, "saves, if that is more");
        NarrowRings x = Check.city("rings 20,20" + gate("g", 0, 0, 5, 7, 0) + CARTS
            + good("a", 1, 6, 7, " holy") + good("b", 1, 5, 8, " holy") + order("oa", "a", 1) + order("ob", "b", 1));
        CHECK.due("all", x.all(), 2 * 9999);
        int[][] rows = {{5, 7, 0}, {6, 7, 9998}, {6, 1, 9998}, {5, 8, 9998}, {1, 8, 9998}, {6, 8, 2 * 9998}, {99, 99, 2 * 9998},
            {1, 1, 0}, {4, 6, 0}};
        for (int[] row : rows) {
            CHECK.due("wide " + row[0] + ", high " + row[1], x, x.saves(0, row[0], row[1]), row[2], 0);
        }
        CHECK.due("widen", x.widen(0, 6, 8), true);
        CHECK.due("all now", x.all(), 2);
        for (int[] row : rows) {
            CHECK.due("widened, wide " + row[0] + ", high " + row[1], x, x.saves(0, row[0], row[1]), 0, 0);
        }
        CHECK.due("close", x.close(0), true);
        CHECK.due("nothing goes through a closed one", x, x.saves(0, 99, 99), 0, 0);
    }

    private static void savesAll() {
        CHECK.promise(29, "saves, ALL less ALL so");
        StringBuilder text = new StringBuilder("rings 20,20" + gate("g", 0, 0, 5, 5, 0) + CARTS
            + good("a", 1, 6, 5, " holy"));
        for (int i = 0; i < 8; i++) {
            text.append(order("o" + (char) ('a' + i), "a", 1));
        }
        NarrowRings x = Check.city(text.toString());
        CHECK.due("eight without a way", x, x.all(), 8 * 9999, 0);
        CHECK.due("eight with one", x, x.saves(0, 6, 5), 8 * 9998, 0);
        CHECK.due("no order", Check.city("rings 9,9" + gate("g", 0, 0, 1, 1, 0)).saves(0, 99, 99), 0);
        // By g 51 to pay, by h 50: a breach of h saves 1, one of g nothing, one of i 51 less 1.
        NarrowRings y = Check.city("rings 20,20" + gate("g", 0, 0, 6, 6, 50) + gate("h", 0, 0, 5, 5, 49)
            + gate("i", 0, 0, 4, 4, 0) + CARTS + good("a", 1, 6, 6, " holy") + order("o", "a", 1));
        CHECK.due("g", y, y.saves(0, 99, 99), 0, 0);
        CHECK.due("h", y, y.saves(1, 6, 6), 1, 0);
        CHECK.due("h, not wide enough", y, y.saves(1, 5, 6), 0, 0);
        CHECK.due("i", y, y.saves(2, 6, 6), 50, 0);
        CHECK.due("i, not high enough", y, y.saves(2, 6, 5), 0, 0);
    }

    private static void savesByCut() {
        CHECK.promise(29, "saves, whole in place of CUT");
        // CUT in three by g it pays 3 times 2; whole by the wider g 1 and 3 hours more.
        NarrowRings x = Check.city("rings 20,20" + gate("g", 0, 0, 3, 3, 1) + CARTS
            + ";good xa long 30 wide 3 high 3 weighs 3 parts 3" + order("o", "a", 1));
        CHECK.due("CUT", x.loadsOf(0), 3);
        CHECK.due("all", x.all(), 6);
        CHECK.due("it doesn't TURN yet", x, x.saves(0, 12, 3), 0, 0);
        CHECK.due("just", x, x.saves(0, 13, 3), 2, 0);
        CHECK.due("still CUT", x.loadsOf(0), 3);
    }

    // -- promise 30

    private static void breachArguments() {
        CHECK.promise(30, "breach");
        NarrowRings none = new NarrowRings();
        CHECK.due("no CITY", none, none.breach(1, 1), -1, 1);
        CHECK.due("no CITY ahead of a number", none, none.breach(0, 100), -1, 1);
        NarrowRings x = Check.city("rings 9,9");
        for (int bad : NO_SIZES) {
            CHECK.due("2 ahead of 6, wide " + bad, x, x.breach(bad, 1), -1, 2);
            CHECK.due("2 ahead of 6, high " + bad, x, x.breach(1, bad), -1, 2);
        }
        CHECK.due("there is no gate", x, x.breach(1, 1), -1, 6);
        CHECK.due("there is no gate", x, x.breach(99, 99), -1, 6);
        CHECK.due("dig", x.dig(0, 0, 1, 1, 1, 0), 0);
        CHECK.due("there is one", x, x.breach(1, 1), 0, 0);
        for (int bad : NO_SIZES) {
            CHECK.due("wide " + bad, x, x.breach(bad, 1), -1, 2);
            CHECK.due("high " + bad, x, x.breach(1, bad), -1, 2);
        }
        CHECK.due("the greatest", x, x.breach(99, 99), 0, 0);
        CHECK.due("undo", x.undo(), true);
        CHECK.due("there is none again", x, x.breach(99, 99), -1, 6);
    }

    private static void breachFirst() {
        CHECK.promise(30, "breach, the first that SAVES most");
        String goods = good("a", 1, 6, 6, " holy") + order("o", "a", 1);
        String[] names = {"ga", "gb", "gc", "gd"};
        int[][] tolls = {{5, 5, 5, 5}, {5, 4, 4, 5}, {5, 4, 3, 2}, {2, 3, 4, 5}, {5, 5, 5, 4}};
        int[] want = {0, 1, 3, 0, 3};
        for (int i = 0; i < tolls.length; i++) {
            StringBuilder text = new StringBuilder("rings 20,20" + CARTS);
            for (int g = 0; g < 4; g++) {
                text.append(gate(names[g], 0, 0, 5, 5, tolls[i][g]));
            }
            NarrowRings x = Check.city(text + goods);
            CHECK.due("tolls " + i, x, x.breach(6, 6), want[i], 0);
            CHECK.due("none saves, the first, " + i, x, x.breach(5, 6), 0, 0);
            CHECK.due("close the best", x.close(want[i]), true);
            int[] next = {1, 2, 2, 1, 0};
            CHECK.due("the next, " + i, x, x.breach(6, 6), next[i], 0);
        }
        StringBuilder text = new StringBuilder("rings 20,20" + CARTS);
        for (int g = 0; g < 11; g++) {
            text.append(gate("g" + (char) ('a' + g), 0, 0, 5, 5, g == 10 ? 0 : 1));
        }
        CHECK.due("the eleventh", Check.city(text + goods).breach(6, 6), 10);
    }

    private static void breachesChangeNothing() {
        NarrowRings x = Check.city("rings 20,20" + gate("g", 0, 0, 5, 7, 0) + CARTS
            + good("a", 1, 6, 6, " holy") + good("b", 1, 5, 5, "") + order("oa", "a", 1) + order("ob", "b", 1));
        CHECK.due("pass", x.pass(2), 2);
        CHECK.due("mark", x.mark(), 0);
        CHECK.promise(29, "saves changes nothing");
        CHECK.due("saves", x.saves(0, 99, 99), 9998);
        asItWas(x);
        CHECK.promise(30, "breach changes nothing");
        CHECK.due("breach", x.breach(99, 99), 0);
        asItWas(x);
        CHECK.promise(32, "ramBy changes nothing");
        CHECK.due("ramBy", x.ramBy(0, 1, 6, 1, 99), 1);
        CHECK.due("ram", x.ram(1, 6, 1), 0);
        asItWas(x);
    }

    private static void asItWas(NarrowRings x) {
        CHECK.due("wide", x.gate(0, 2), 5);
        CHECK.due("high", x.gate(0, 3), 7);
        CHECK.due("a way", x.payOf(0), -2);
        CHECK.due("another", x.payOf(1), 1);
        CHECK.due("loads", x.loads(), 1);
        CHECK.due("HOUR", x.size(5), 2);
        CHECK.due("MARKS", x.size(6), 1);
        CHECK.due("ACTS", x.size(7), 0);
        CHECK.due("busy", x.busy(0), 0);
    }

    // -- promises 31 and 32

    private static void ramArguments() {
        CHECK.promise(31, "ram");
        NarrowRings none = new NarrowRings();
        CHECK.due("no CITY", none, none.ram(1, 1, 1), -1, 1);
        CHECK.due("no CITY ahead of a number", none, none.ram(0, 1, 1), -1, 1);
        NarrowRings x = Check.city("rings 99,99" + gate("g", 0, 0, 99, 99, 0));
        for (int bad : NO_SIZES) {
            CHECK.due("long " + bad, x, x.ram(bad, 1, 1), -1, 2);
            CHECK.due("wide " + bad, x, x.ram(1, bad, 1), -1, 2);
            CHECK.due("high " + bad, x, x.ram(1, 1, bad), -1, 2);
        }
        CHECK.due("the least", x, x.ram(1, 1, 1), 1, 0);
        CHECK.due("the greatest", x, x.ram(99, 99, 99), 1, 0);
    }

    private static void ramEdges() {
        CHECK.promise(31, "ram, how DEEP");
        NarrowRings x = Check.city("rings 20,14,9" + gate("g", 0, 0, 16, 12, 0) + gate("h", 1, 0, 8, 10, 0));
        int[][] rows = {{1, 20, 1, 0}, {1, 21, 1, -2}, {99, 20, 99, 0}, {99, 21, 99, -2}, {1, 14, 12, 1}, {1, 15, 12, 0},
            {1, 14, 13, 0}, {1, 8, 10, 2}, {1, 9, 10, 1}, {1, 8, 11, 1}, {16, 14, 1, 1}, {17, 14, 1, 0}, {9, 8, 10, 2},
            {10, 8, 10, 1}, {16, 1, 1, 2}, {17, 1, 1, 1}, {29, 1, 1, 1}, {30, 1, 1, 0}};
        for (int[] r : rows) {
            CHECK.due(r[0] + " long, " + r[1] + " wide, " + r[2] + " high", x, x.ram(r[0], r[1], r[2]), r[3], 0);
        }
        CHECK.due("no gate", Check.city("rings 9,9").ram(1, 9, 99), 0);
        NarrowRings y = Check.city("rings 9,9,9" + gate("h", 1, 0, 9, 9, 0));
        CHECK.due("no outer gate", y, y.ram(1, 1, 1), 0, 0);
        NarrowRings z = Check.city("rings 9,9,9" + gate("g", 0, 0, 4, 9, 0) + gate("h", 0, 1, 9, 4, 0)
            + gate("i", 1, 6, 9, 9, 0));
        CHECK.due("by any of them, at any place", z, z.ram(1, 4, 9), 2, 0);
        CHECK.due("by the other", z, z.ram(1, 9, 4), 2, 0);
        CHECK.due("by neither", z, z.ram(1, 5, 5), 0, 0);
        CHECK.due("close", z.close(0), true);
        CHECK.due("nothing goes through", z, z.ram(1, 4, 9), 0, 0);
        CHECK.due("by the other still", z, z.ram(1, 4, 4), 2, 0);
        StringBuilder text = new StringBuilder("rings 9,9,9,9,9,9");
        for (int ring = 0; ring < 5; ring++) {
            text.append(gate("g" + (char) ('a' + ring), ring, ring, 9, 9, 0));
        }
        CHECK.due("the innermost of six", Check.city(text.toString()).ram(9, 9, 9), 5);
    }

    private static void ramAlone() {
        CHECK.promise(31, "ram, lying alone, no cart");
        NarrowRings x = Check.city("rings 9,9" + gate("g", 0, 0, 4, 8, 0));
        CHECK.due("on no side", x, x.ram(1, 8, 4), 0, 0);
        CHECK.due("lying, and there is no cart", x, x.ram(1, 4, 8), 1, 0);
        NarrowRings y = Check.city("rings 9,9" + gate("g", 0, 0, 9, 20, 0));
        CHECK.due("not upright", y, y.ram(10, 9, 1), 0, 0);
        CHECK.due("one less long", y, y.ram(9, 9, 1), 1, 0);
    }

    private static void ramByArguments() {
        CHECK.promise(32, "ramBy");
        NarrowRings none = new NarrowRings();
        CHECK.due("no CITY", none, none.ramBy(0, 1, 1, 1, 1), -1, 1);
        CHECK.due("no CITY ahead of a number", none, none.ramBy(0, 0, 0, 0, 0), -1, 1);
        NarrowRings x = Check.city("rings 99,99" + gate("g", 0, 0, 1, 99, 0) + gate("h", 0, 0, 1, 99, 0));
        for (int bad : new int[] {-1, 2, LOWEST, HIGHEST}) {
            CHECK.due("gate " + bad, x, x.ramBy(bad, 1, 1, 1, 1), -1, 1);
            CHECK.due("1 ahead of 2, gate " + bad, x, x.ramBy(bad, 0, 1, 1, 100), -1, 1);
        }
        for (int bad : NO_SIZES) {
            CHECK.due("long " + bad, x, x.ramBy(1, bad, 1, 1, 1), -1, 2);
            CHECK.due("wide " + bad, x, x.ramBy(1, 1, bad, 1, 1), -1, 2);
            CHECK.due("high " + bad, x, x.ramBy(1, 1, 1, bad, 1), -1, 2);
            CHECK.due("new width " + bad, x, x.ramBy(1, 1, 1, 1, bad), -1, 2);
        }
        CHECK.due("the least", x, x.ramBy(0, 1, 1, 1, 1), 1, 0);
        CHECK.due("the greatest", x, x.ramBy(1, 99, 99, 99, 99), 1, 0);
        NarrowRings y = Check.city("rings 9,9");
        CHECK.due("no gate", y, y.ramBy(0, 1, 1, 1, 1), -1, 1);
    }

    private static void ramByEdges() {
        CHECK.promise(32, "ramBy, with a BREACH");
        NarrowRings x = Check.city("rings 20,14,9" + gate("g", 0, 0, 8, 12, 0) + gate("h", 1, 0, 5, 10, 0));
        // Of gate, long, wide, high, new width: how DEEP.
        int[][] rows = {{0, 1, 9, 1, 8, 0}, {0, 1, 9, 1, 9, 1}, {0, 1, 9, 1, 1, 0}, {0, 1, 8, 1, 1, 1}, {1, 1, 6, 1, 5, 1},
            {1, 1, 6, 1, 6, 2}, {1, 1, 5, 1, 1, 2}, {1, 1, 9, 1, 99, 0}, {0, 1, 14, 12, 99, 1}, {0, 1, 15, 12, 99, 0},
            {0, 1, 8, 13, 99, 0}, {1, 1, 8, 10, 99, 2}, {1, 1, 8, 11, 99, 1}, {1, 1, 20, 1, 99, 0}, {1, 1, 21, 1, 99, -2},
            {0, 1, 21, 1, 99, -2}, {1, 16, 5, 1, 11, 1}, {1, 16, 5, 1, 12, 2}, {0, 20, 4, 1, 9, 0}, {0, 20, 4, 1, 10, 1}};
        for (int[] r : rows) {
            CHECK.due("gate " + r[0] + ", " + r[1] + " long, " + r[2] + " wide, " + r[3] + " high, " + r[4], x,
                x.ramBy(r[0], r[1], r[2], r[3], r[4]), r[5], 0);
        }
        CHECK.due("close", x.close(0), true);
        CHECK.due("a closed one", x, x.ramBy(0, 1, 1, 1, 99), 0, 0);
        CHECK.due("behind a closed one", x, x.ramBy(1, 1, 1, 1, 99), 0, 0);
    }

    // -- promises 33 and 34

    private static void holdArguments() {
        CHECK.promise(33, "hold");
        NarrowRings none = new NarrowRings();
        CHECK.due("no CITY", none, none.hold(0), -1, 1);
        for (int rings = 2; rings <= 6; rings++) {
            NarrowRings x = Check.city("rings 9,9,9,9,9,9".substring(0, 5 + 2 * rings));
            for (int bad : new int[] {-1, rings, LOWEST, HIGHEST}) {
                CHECK.due("ring " + bad + " of " + rings, x, x.hold(bad), -1, 1);
            }
            CHECK.due("without mouths", x, x.hold(0), 999, 0);
            CHECK.due("without mouths", x, x.hold(rings - 1), 999, 0);
        }
    }

    private static void holdDownwards() {
        CHECK.promise(33, "hold, downwards");
        int[][] rows = {{0, 1, 0}, {9, 10, 0}, {10, 10, 1}, {19, 10, 1}, {20, 10, 2}, {999, 1, 999}, {98, 99, 0}, {99, 99, 1},
            {999, 99, 10}, {0, 0, 999}, {999, 0, 999}};
        for (int[] row : rows) {
            NarrowRings x = Check.city("rings 9,9;store 1 bread " + row[0] + " mouths " + row[1]);
            CHECK.due(row[0] + " for " + row[1], x, x.hold(0), row[2], 0);
            CHECK.due(row[0] + " for " + row[1] + ", within", x, x.hold(1), row[2], 0);
            NarrowRings y = Check.city("rings 9,9;store 0 bread " + row[0] + " mouths " + row[1]);
            CHECK.due(row[0] + " for " + row[1] + ", outside", y, y.hold(0), row[2], 0);
            CHECK.due("no bread within for " + row[1], y, y.hold(1), row[1] == 0 ? 999 : 0, 0);
        }
        CHECK.promise(33, "hold, of it and all within, for all mouths of the city");
        StringBuilder text = new StringBuilder("rings 9,9,9,9,9,9");
        for (int ring = 0; ring < 6; ring++) {
            text.append(";store ").append(ring).append(" bread 999 mouths ").append(ring == 3 ? 1 : 0);
        }
        NarrowRings x = Check.city(text.toString());
        for (int ring = 0; ring < 6; ring++) {
            CHECK.due("ring " + ring, x, x.hold(ring), 999 * (6 - ring), 0);
        }
        NarrowRings y = Check.city(text.toString().replace("mouths 0", "mouths 99").replace("mouths 1", "mouths 99"));
        int[] want = {10, 8, 6, 5, 3, 1};
        for (int ring = 0; ring < 6; ring++) {
            CHECK.due("ring " + ring + " for 594 mouths", y, y.hold(ring), want[ring], 0);
        }
    }

    private static void stand() {
        CHECK.promise(34, "stand");
        NarrowRings none = new NarrowRings();
        CHECK.due("no CITY", none, none.stand(), -1, 1);
        String[] texts = {"rings 9,9", "rings 9,9,9,9,9,9", "rings 9,9,9;store 0 bread 1 mouths 1",
            "rings 9,9,9;store 1 bread 1 mouths 1", "rings 9,9,9;store 2 bread 1 mouths 1",
            "rings 9,9,9;store 2 bread 0 mouths 1", "rings 9,9,9;store 0 bread 1 mouths 1;store 2 bread 1 mouths 0",
            "rings 9,9,9;store 0 bread 1 mouths 2;store 2 bread 2 mouths 0",
            "rings 9,9,9;store 0 bread 2 mouths 2;store 2 bread 2 mouths 0",
            "rings 9,9,9;store 0 bread 999 mouths 0;store 1 bread 999 mouths 0",
            "rings 9,9,9;store 0 bread 1 mouths 9;store 1 bread 9 mouths 0;store 2 bread 8 mouths 0"};
        // The last: 18, 17 and 8 for 9 mouths, so 2, 1 and 0.
        int[] want = {1, 5, 0, 1, 2, 2, 0, 2, 0, 2, 0};
        for (int i = 0; i < texts.length; i++) {
            NarrowRings x = Check.city(texts[i]);
            CHECK.due(texts[i], x, x.stand(), want[i], 0);
        }
    }

    // -- promise 35

    private static void theftArguments() {
        CHECK.promise(35, "theft");
        NarrowRings none = new NarrowRings();
        CHECK.due("no CITY", none, none.theft(0, 0, 0, 0, false), -1, 1);
        CHECK.due("no CITY ahead of a number", none, none.theft(0, 0, 0, 100, true), -1, 1);
        NarrowRings x = Check.city("rings 9,9,9" + gate("g", 0, 0, 9, 9, 0) + gate("h", 1, 11, 9, 9, 0)
            + good("a", 1, 1, 1, " parts 2") + good("b", 1, 1, 1, "") + good("c", 1, 1, 1, " parts 2 holy"));
        for (int bad : new int[] {-1, LOWEST, HIGHEST}) {
            CHECK.due("good " + bad, x, x.theft(bad, 0, 0, 0, false), -1, 1);
            CHECK.due("ring " + bad, x, x.theft(0, bad, 0, 0, false), -1, 1);
            CHECK.due("place " + bad, x, x.theft(0, 0, bad, 0, false), -1, 1);
            CHECK.due("HOURS " + bad, x, x.theft(0, 0, 0, bad, false), -1, 2);
        }
        CHECK.due("good 3", x, x.theft(3, 0, 0, 0, false), -1, 1);
        CHECK.due("good 2", x, x.theft(2, 0, 0, 0, false), 0, 0);
        CHECK.due("ring 3", x, x.theft(0, 3, 0, 0, false), -1, 1);
        CHECK.due("ring 2", x, x.theft(0, 2, 11, 3, false), 3, 0);
        CHECK.due("place 12", x, x.theft(0, 0, 12, 0, false), -1, 1);
        CHECK.due("place 11", x, x.theft(0, 0, 11, 0, false), 0, 0);
        CHECK.due("HOURS 100", x, x.theft(0, 0, 0, 100, false), -1, 2);
        CHECK.due("HOURS 99", x, x.theft(0, 0, 0, 99, false), 3, 0);
        CHECK.due("HOURS 0", x, x.theft(0, 0, 0, 0, false), 0, 0);
        CHECK.due("1 ahead of 2", x, x.theft(0, 3, 0, 100, true), -1, 1);
        CHECK.due("2 ahead of 5", x, x.theft(1, 0, 0, 100, true), -1, 2);
        CHECK.due("2 ahead of 5, below", x, x.theft(1, 0, 0, -1, true), -1, 2);
        CHECK.due("no parts", x, x.theft(1, 0, 0, 99, true), -1, 5);
        CHECK.due("holy with parts", x, x.theft(2, 0, 0, 99, true), -1, 5);
        CHECK.due("parts", x, x.theft(0, 0, 0, 99, true), 3, 0);
    }

    /** To ring 0 by g: 1 place and 3 hours; by h: 2 places and 3 hours. */
    private static void theftHours() {
        CHECK.promise(35, "theft, in so many HOURS");
        NarrowRings x = Check.city("rings 9,9" + gate("g", 0, 11, 9, 9, 99) + gate("h", 0, 2, 9, 9, 0)
            + ";good a long 1 wide 1 high 1 weighs 3");
        int[] want = {0, 0, 0, 0, 1, 3, 3};
        for (int hours = 0; hours < want.length; hours++) {
            CHECK.due("from 1,0 in " + hours, x, x.theft(0, 1, 0, hours, false), want[hours], 0);
        }
        CHECK.due("from the gate's place", x, x.theft(0, 1, 11, 3, false), 1, 0);
        CHECK.due("one less", x, x.theft(0, 1, 11, 2, false), 0, 0);
        CHECK.due("any place of ring 0", x, x.theft(0, 1, 2, 3, false), 2, 0);
        CHECK.due("close", x.close(0), true);
        CHECK.due("not by a closed one", x, x.theft(0, 1, 0, 99, false), 2, 0);
        CHECK.due("undo", x.undo(), true);
        CHECK.due("by it again", x, x.theft(0, 1, 0, 99, false), 3, 0);
        NarrowRings y = Check.city("rings 9,9;good a long 1 wide 1 high 1 weighs 3");
        CHECK.due("no gate, no way", y, y.theft(0, 1, 0, 99, false), 0, 0);
        CHECK.due("no gate, in ring 0", y, y.theft(0, 0, 0, 99, false), 0, 0);
    }

    private static void theftThereAndBack() {
        CHECK.promise(35, "theft, there and back too");
        NarrowRings x = Check.city("rings 9,9,9" + gate("g", 0, 0, 9, 9, 0) + gate("h", 1, 6, 9, 9, 0)
            + gate("i", 0, 3, 9, 9, 0) + ";good a long 1 wide 1 high 1 weighs 2");
        // From ring 0 in and out by g is 4; in by g and out by i 2, 3 and 2 hours; i itself: 3 places, 4 hours.
        int[] ring0 = {0, 0, 0, 0, 1, 1, 1, 5};
        for (int hours = 0; hours < ring0.length; hours++) {
            CHECK.due("from 0,0 in " + hours, x, x.theft(0, 0, 0, hours, false), ring0[hours], 0);
        }
        // From 1,6: h and back 4 hours, then to i 3 places and 2 hours: 9 in all.
        CHECK.due("by i alone", x, x.theft(0, 1, 6, 5, false), 4, 0);
        CHECK.due("by h and back not yet", x, x.theft(0, 1, 6, 8, false), 5, 0);
        CHECK.due("by h and back", x, x.theft(0, 1, 6, 9, false), 7, 0);
        // From 0,0 to h and back to ring 0: 2 and 6 hours, 4, 3 and 2.
        CHECK.due("h from ring 0 not yet", x, x.theft(0, 0, 0, 16, false), 5, 0);
        CHECK.due("h from ring 0", x, x.theft(0, 0, 0, 17, false), 7, 0);
        // From 2,6 by h, then as above: 2 and 3 and 2 hours; by g 2 and 6 and 2.
        CHECK.due("not yet", x, x.theft(0, 2, 6, 6, false), 0, 0);
        CHECK.due("by h and i", x, x.theft(0, 2, 6, 7, false), 6, 0);
        CHECK.due("g not yet", x, x.theft(0, 2, 6, 9, false), 6, 0);
        CHECK.due("by h and g", x, x.theft(0, 2, 6, 10, false), 7, 0);
    }

    /** By h, which takes 9 hours, in at its place, then by the way that is nearer to g, and out by g in 1. */
    private static void theftInByOneOutByAnother() {
        CHECK.promise(35, "theft, there by one gate and back by another");
        int[] round = {0, 1, 2, 3, 4, 5, 6, 5, 4, 3, 2, 1};
        for (int in = 0; in < 12; in++) {
            for (int out = 0; out < 12; out++) {
                int far = round[(in - out + 12) % 12];
                NarrowRings x = Check.city("rings 9,9" + gate("g", 0, out, 9, 9, 0).replace("hands 1", "hands 9")
                    + gate("h", 0, in, 9, 9, 0) + ";good a long 1 wide 1 high 1 weighs 9");
                String what = "in at " + in + ", out at " + out;
                CHECK.due(what, x, x.theft(0, 0, in, 9 + far + 1, false), 3, 0);
                CHECK.due(what + ", not yet", x, x.theft(0, 0, in, 9 + far, false), 1, 0);
                // From g's place the other way about: in by g, out by h.
                CHECK.due(what + ", from the other's place", x, x.theft(0, 0, out, 1 + far + 9, false), 3, 0);
                CHECK.due(what + ", from the other's place, not yet", x, x.theft(0, 0, out, far + 9, false), 1, 0);
            }
        }
    }

    private static void theftByAllGates() {
        CHECK.promise(35, "theft, gates as bits");
        StringBuilder text = new StringBuilder("rings 9,9");
        for (int g = 0; g < 11; g++) {
            text.append(gate("g" + (char) ('a' + g), 0, g, 9, 9, 0));
        }
        NarrowRings x = Check.city(text + good("a", 1, 1, 1, ""));
        for (int g = 0; g < 11; g++) {
            CHECK.due("gate " + g + " alone", x, x.theft(0, 1, g, 1, false), 1 << g, 0);
        }
        CHECK.due("beside two", x, x.theft(0, 1, 11, 2, false), 1 | 1 << 10, 0);
        CHECK.due("all", x, x.theft(0, 1, 0, 7, false), 2047, 0);
        CHECK.due("all but the one half round", x, x.theft(0, 1, 0, 6, false), 2047 - 64, 0);
    }

    private static void theftFits() {
        CHECK.promise(35, "theft, it must FIT");
        // No carts at all; ring 1 is 8 wide, and gate g is 8 high.
        NarrowRings x = Check.city("rings 9,8" + gate("g", 0, 0, 9, 8, 0) + good("a", 1, 8, 8, " holy")
            + good("b", 1, 9, 8, " holy") + good("c", 1, 8, 9, " holy") + good("d", 1, 10, 10, " holy")
            + good("e", 9, 8, 9, " tilts holy") + good("f", 8, 8, 9, " tilts holy"));
        int[] want = {1, 0, 0, 0, 0, 1};
        for (int good = 0; good < 6; good++) {
            CHECK.due("good " + good, x, x.theft(good, 1, 0, 99, false), want[good], 0);
            CHECK.due("in ring 0, good " + good, x, x.theft(good, 0, 0, 99, false), want[good], 0);
        }
    }

    private static void theftCut() {
        CHECK.promise(35, "theft, CUT, all loads going at once");
        // Whole 9 hours by 1 hand; a part of four weighs 3, upwards.
        NarrowRings x = Check.city("rings 9,9" + gate("g", 0, 0, 9, 9, 0) + gate("h", 0, 1, 5, 5, 0)
            + ";good a long 12 wide 5 high 5 weighs 9 parts 4;good b long 36 wide 5 high 5 weighs 9 parts 4;"
            + "good c long 37 wide 5 high 5 weighs 9 parts 4");
        CHECK.due("whole, not yet", x, x.theft(0, 1, 0, 8, false), 0, 0);
        CHECK.due("whole", x, x.theft(0, 1, 0, 9, false), 1, 0);
        CHECK.due("CUT, not yet", x, x.theft(0, 1, 0, 2, true), 0, 0);
        CHECK.due("CUT", x, x.theft(0, 1, 0, 3, true), 1, 0);
        CHECK.due("CUT, by the narrow one too", x, x.theft(0, 1, 0, 4, true), 3, 0);
        CHECK.due("a part just turns", x, x.theft(1, 1, 0, 4, true), 3, 0);
        CHECK.due("whole it turns nowhere", x, x.theft(1, 1, 0, 99, false), 0, 0);
        CHECK.due("a part of one more", x, x.theft(2, 1, 0, 4, true), 1, 0);
    }

    /** From every place to a gate at every place: the nearer way round, and just as short from ring 0 in and out. */
    private static void theftRoundTheRings() {
        CHECK.promise(35, "theft, 12 round");
        int[] round = {0, 1, 2, 3, 4, 5, 6, 5, 4, 3, 2, 1};
        for (int at = 0; at < 12; at++) {
            NarrowRings x = Check.city("rings 9,9,9" + gate("g", 1, at, 9, 9, 0) + gate("h", 0, (at + 4) % 12, 9, 9, 0)
                + good("a", 1, 1, 1, ""));
            for (int from = 0; from < 12; from++) {
                int far = round[(at - from + 12) % 12];
                int farther = round[(at + 4 - from + 12) % 12];
                CHECK.due("from 2," + from + " by " + at, x, x.theft(0, 2, from, far + 1 + 4 + 1, false), 3, 0);
                CHECK.due("one less", x, x.theft(0, 2, from, far + 1 + 4, false), 0, 0);
                CHECK.due("from 1," + from, x, x.theft(0, 1, from, farther + 1, false), 2, 0);
                CHECK.due("one less", x, x.theft(0, 1, from, farther, false), 0, 0);
                CHECK.due("from 0," + from + ", in and out", x, x.theft(0, 0, from, farther + 2, false), 2, 0);
                CHECK.due("one less", x, x.theft(0, 0, from, farther + 1, false), 0, 0);
            }
        }
        CHECK.promise(35, "theft, from the innermost of six");
        StringBuilder text = new StringBuilder("rings 9,9,9,9,9,9");
        for (int ring = 0; ring < 5; ring++) {
            text.append(gate("g" + (char) ('a' + ring), ring, ring % 2 == 0 ? 11 : 5, 9, 9, 0));
        }
        NarrowRings x = Check.city(text + good("a", 1, 1, 1, ""));
        // From 5,5 half round to 11, and so in each ring but ring 0: 5 of 6 and 5 gates.
        CHECK.due("in 35", x, x.theft(0, 5, 5, 35, false), 31, 0);
        CHECK.due("in 34", x, x.theft(0, 5, 5, 34, false), 0, 0);
        CHECK.due("from 4, in 28", x, x.theft(0, 4, 11, 28, false), 15, 0);
        CHECK.due("from 4, in 29", x, x.theft(0, 4, 11, 29, false), 15, 0);
        CHECK.due("from 4, in 30", x, x.theft(0, 4, 11, 30, false), 31, 0);
        CHECK.due("from ring 0, the innermost", x, x.theft(0, 0, 11, 58, false), 31, 0);
        CHECK.due("from ring 0, not yet", x, x.theft(0, 0, 11, 57, false), 15, 0);
    }
}
