/** The edges of Terms II that POSES, FITS, TURNS, CUT, BEARS, DEEPEST and BARS name, and of promises 6 to 10. */
public final class EdgeFitTest {
    private static final Check CHECK = new Check("EdgeFitTest");
    private static final int LOWEST = Integer.MIN_VALUE;
    private static final int HIGHEST = Integer.MAX_VALUE;

    public static void main(String[] args) {
        gateArguments();
        gateNow();
        fitsArguments();
        fitsWithoutThePose();
        fitsRing();
        fitsGate();
        turns();
        fitsWhole();
        barsArguments();
        barsOneByOne();
        barsLeastOfPoses();
        barsCutUpwards();
        deepestArguments();
        deepestByCarts();
        deepestByGates();
        deepestCutUpwards();
        fullTables();
        CHECK.end();
    }

    private static String good(String name, int length, int wide, int high, String behind) {
        return ";good x" + name + " long " + length + " wide " + wide + " high " + high + " weighs 1" + behind;
    }

    // -- promise 6

    private static void gateArguments() {
        CHECK.promise(6, "gate");
        NarrowRings x = Check.city("rings 9,9,9;gate g in 0 at 0 wide 1 high 2 hands 3 toll 4;"
            + "gate h in 1 at 11 wide 99 high 98 hands 9 toll 99");
        for (int g : new int[] {-1, 2, 11, LOWEST, HIGHEST}) {
            CHECK.due("gate(" + g + ", 0)", x, x.gate(g, 0), -1, 1);
        }
        for (int what : new int[] {-1, 7, LOWEST, HIGHEST}) {
            CHECK.due("gate(0, " + what + ")", x, x.gate(0, what), -1, 1);
            CHECK.due("gate(1, " + what + ")", x, x.gate(1, what), -1, 1);
        }
        int[][] rows = {{0, 0, 1, 2, 3, 4, 0}, {1, 11, 99, 98, 9, 99, 0}};
        for (int g = 0; g < 2; g++) {
            for (int what = 0; what < 7; what++) {
                CHECK.due("gate(" + g + ", " + what + ")", x, x.gate(g, what), rows[g][what], 0);
            }
        }
        NarrowRings y = Check.city("rings 9,9");
        CHECK.due("of a city without gates", y, y.gate(0, 0), -1, 1);
    }

    private static void gateNow() {
        CHECK.promise(6, "gate, a gate now");
        NarrowRings x = Check.city("rings 9,9;gate g in 0 at 0 wide 1 high 2 hands 3 toll 4");
        CHECK.due("not yet", x, x.gate(1, 0), -1, 1);
        CHECK.due("dig", x.dig(0, 7, 8, 9, 1, 2), 1);
        CHECK.due("dug", x, x.gate(1, 1), 7, 0);
        CHECK.due("open", x, x.gate(1, 6), 0, 0);
        CHECK.due("close", x.close(1), true);
        CHECK.due("closed it is a gate still", x, x.gate(1, 6), 1, 0);
        CHECK.due("its size too", x, x.gate(1, 2), 8, 0);
        CHECK.due("undo", x.undo(), true);
        CHECK.due("open again", x, x.gate(1, 6), 0, 0);
        CHECK.due("undo", x.undo(), true);
        CHECK.due("no more", x, x.gate(1, 0), -1, 1);
        CHECK.due("a breach is only thought of", x.saves(0, 99, 99), 0);
        CHECK.due("so it is as wide as it was", x, x.gate(0, 2), 1, 0);
    }

    // -- promise 7

    private static void fitsArguments() {
        CHECK.promise(7, "fits");
        NarrowRings x = Check.city("rings 9,9,9;gate g in 0 at 0 wide 9 high 9 hands 1 toll 0;"
            + "gate h in 1 at 0 wide 9 high 9 hands 1 toll 0" + good("p", 1, 1, 1, " tilts") + good("q", 1, 1, 1, " holy"));
        for (int bad : new int[] {-1, LOWEST, HIGHEST}) {
            CHECK.due("good " + bad, x, x.fits(bad, true, 0, 0), -1, 1);
            CHECK.due("ring " + bad, x, x.fits(0, false, bad, 0), -1, 1);
            CHECK.due("gate " + bad, x, x.fits(0, true, bad, 0), -1, 1);
            CHECK.due("POSE " + bad, x, x.fits(0, true, 0, bad), -1, 1);
        }
        CHECK.due("good 2", x, x.fits(2, false, 0, 0), -1, 1);
        CHECK.due("good 1", x, x.fits(1, false, 0, 0), 1, 0);
        CHECK.due("ring 3", x, x.fits(0, false, 3, 0), -1, 1);
        CHECK.due("ring 2", x, x.fits(0, false, 2, 0), 1, 0);
        CHECK.due("gate 2", x, x.fits(0, true, 2, 0), -1, 1);
        CHECK.due("gate 1", x, x.fits(0, true, 1, 0), 1, 0);
        CHECK.due("POSE 3", x, x.fits(0, true, 0, 3), -1, 1);
        CHECK.due("POSE 2", x, x.fits(0, true, 0, 2), 1, 0);
        CHECK.due("1 goes ahead of 5: ring", x, x.fits(1, false, 3, 2), -1, 1);
        CHECK.due("1 goes ahead of 5: gate", x, x.fits(1, true, 2, 1), -1, 1);
        CHECK.due("1 goes ahead of 5: POSE", x, x.fits(1, true, 0, 3), -1, 1);
        CHECK.due("5", x, x.fits(1, true, 1, 2), -1, 5);
    }

    private static void fitsWithoutThePose() {
        CHECK.promise(7, "fits, 5");
        String[] kinds = {"", " tilts", " holy", " tilts holy"};
        boolean[][] has = {{true, true, false}, {true, true, true}, {true, false, false}, {true, false, true}};
        StringBuilder text = new StringBuilder("rings 9,9;gate g in 0 at 0 wide 9 high 9 hands 1 toll 0");
        for (int i = 0; i < 4; i++) {
            text.append(good("p" + (char) ('a' + i), 2, 2, 2, kinds[i]));
            text.append(good("q" + (char) ('a' + i), 2, 2, 2, " parts 2" + kinds[i]));
        }
        NarrowRings x = Check.city(text.toString());
        for (int good = 0; good < 8; good++) {
            for (int pose = 0; pose < 3; pose++) {
                boolean it = has[good / 2][pose];
                CHECK.due("ring, good " + good + " POSE " + pose, x, x.fits(good, false, 1, pose), it ? 1 : -1, it ? 0 : 5);
                CHECK.due("gate, good " + good + " POSE " + pose, x, x.fits(good, true, 0, pose), it ? 1 : -1, it ? 0 : 5);
            }
        }
    }

    /** A ring asks for the width of the POSE alone: just as wide, one wider. */
    private static void fitsRing() {
        CHECK.promise(7, "fits, a ring");
        NarrowRings x = Check.city("rings 9,8" + good("a", 99, 8, 99, " tilts") + good("b", 99, 9, 8, " tilts")
            + good("c", 8, 8, 9, " tilts") + good("d", 1, 9, 9, " tilts") + good("e", 1, 10, 10, " tilts"));
        int[][] outer = {{1, 0, 1}, {1, 1, 1}, {1, 1, 1}, {1, 1, 1}, {0, 0, 0}};
        int[][] inner = {{1, 0, 1}, {0, 1, 0}, {1, 0, 1}, {0, 0, 0}, {0, 0, 0}};
        for (int good = 0; good < 5; good++) {
            for (int pose = 0; pose < 3; pose++) {
                CHECK.due("ring 0, good " + good + " POSE " + pose, x, x.fits(good, false, 0, pose), outer[good][pose], 0);
                CHECK.due("ring 1, good " + good + " POSE " + pose, x, x.fits(good, false, 1, pose), inner[good][pose], 0);
            }
        }
    }

    /** Rings that bar nothing: just as wide, just as high as the gate, and one more of each. */
    private static void fitsGate() {
        CHECK.promise(7, "fits, a gate");
        NarrowRings x = Check.city("rings 99,99;gate g in 0 at 0 wide 5 high 7 hands 1 toll 0"
            + good("a", 1, 5, 7, "") + good("b", 1, 6, 7, "") + good("c", 1, 5, 8, "") + good("d", 1, 7, 5, "")
            + good("e", 7, 5, 1, " tilts") + good("f", 8, 5, 1, " tilts") + good("h", 7, 6, 1, " tilts"));
        int[][] want = {{1, 0, -1}, {0, 0, -1}, {0, 0, -1}, {0, 1, -1}, {1, 1, 1}, {1, 1, 0}, {0, 1, 0}};
        for (int good = 0; good < 7; good++) {
            for (int pose = 0; pose < 3; pose++) {
                int due = want[good][pose];
                CHECK.due("good " + good + " POSE " + pose, x, x.fits(good, true, 0, pose), due, due < 0 ? 5 : 0);
            }
        }
        NarrowRings y = Check.city("rings 9,7;gate g in 0 at 0 wide 99 high 99 hands 1 toll 0"
            + good("a", 1, 7, 1, "") + good("b", 1, 8, 1, "") + good("c", 1, 9, 1, "") + good("d", 1, 10, 1, ""));
        int[] gate = {1, 0, 0, 0};
        int[] outer = {1, 1, 1, 0};
        for (int good = 0; good < 4; good++) {
            CHECK.due("it FITS both rings, or no wide gate: good " + good, y, y.fits(good, true, 0, 0), gate[good], 0);
            CHECK.due("the outer ring: good " + good, y, y.fits(good, false, 0, 0), outer[good], 0);
            CHECK.due("the inner ring: good " + good, y, y.fits(good, false, 1, 0), gate[good], 0);
        }
        CHECK.due("close", y.close(0), true);
        CHECK.due("closed, by its size still", y, y.fits(0, true, 0, 0), 1, 0);
        CHECK.due("closed, by its size not", y, y.fits(1, true, 0, 0), 0, 0);
        CHECK.due("widen", x.widen(0, 6, 1), true);
        CHECK.due("one wider", x, x.fits(1, true, 0, 0), 1, 0);
        CHECK.due("not one higher", x, x.fits(2, true, 0, 0), 0, 0);
    }

    /** Long and wide together just as much as ring and gate, and one more; by POSES it is another length. */
    private static void turns() {
        CHECK.promise(7, "fits, TURNS");
        // Outside 20 + 6, inside 10 + 6.
        NarrowRings x = Check.city("rings 20,10;gate g in 0 at 0 wide 6 high 99 hands 1 toll 0"
            + good("a", 12, 4, 1, "") + good("b", 13, 4, 1, "") + good("c", 11, 9, 5, "") + good("d", 12, 9, 5, "")
            + good("e", 99, 5, 11, " tilts") + good("f", 99, 5, 12, " tilts"));
        CHECK.due("just inside", x, x.fits(0, true, 0, 0), 1, 0);
        CHECK.due("one more", x, x.fits(1, true, 0, 0), 0, 0);
        CHECK.due("on its side it is less wide", x, x.fits(1, true, 0, 1), 1, 0);
        CHECK.due("on its side just", x, x.fits(2, true, 0, 1), 1, 0);
        CHECK.due("on its side one more", x, x.fits(3, true, 0, 1), 0, 0);
        CHECK.due("upright its high is its long, just", x, x.fits(4, true, 0, 2), 1, 0);
        CHECK.due("upright one more", x, x.fits(5, true, 0, 2), 0, 0);
        // Inside and outside alike 7 + 6; the inner ring may not be the wider one, so outside never bars alone.
        NarrowRings y = Check.city("rings 7,7;gate g in 0 at 0 wide 6 high 9 hands 1 toll 0"
            + good("a", 7, 6, 1, "") + good("b", 8, 6, 1, ""));
        CHECK.due("just on both sides", y, y.fits(0, true, 0, 0), 1, 0);
        CHECK.due("one more on both sides", y, y.fits(1, true, 0, 0), 0, 0);
        CHECK.due("widen", y.widen(0, 7, 1), true);
        CHECK.due("the gate's width counts", y, y.fits(1, true, 0, 0), 1, 0);
    }

    private static void fitsWhole() {
        CHECK.promise(7, "fits, whole");
        NarrowRings x = Check.city("rings 9,9;gate g in 0 at 0 wide 9 high 9 hands 1 toll 0"
            + good("a", 18, 9, 9, " parts 2") + good("b", 9, 9, 9, " parts 2"));
        CHECK.due("CUT alone it would", x, x.fits(0, true, 0, 0), 0, 0);
        CHECK.due("CUT it does", x.bars(0, 0, true), 0);
        CHECK.due("whole it does", x, x.fits(1, true, 0, 0), 1, 0);
    }

    // -- promise 8

    private static void barsArguments() {
        CHECK.promise(8, "bars");
        NarrowRings x = Check.city("rings 9,9;gate g in 0 at 0 wide 9 high 9 hands 1 toll 0;"
            + "gate h in 0 at 0 wide 1 high 1 hands 1 toll 0" + good("a", 2, 2, 2, " parts 2")
            + good("b", 2, 2, 2, "") + good("c", 2, 2, 2, " parts 9 holy"));
        for (int bad : new int[] {-1, LOWEST, HIGHEST}) {
            CHECK.due("good " + bad, x, x.bars(bad, 0, false), -1, 1);
            CHECK.due("gate " + bad, x, x.bars(0, bad, false), -1, 1);
            CHECK.due("good " + bad + " CUT", x, x.bars(bad, 0, true), -1, 1);
            CHECK.due("gate " + bad + " CUT", x, x.bars(1, bad, true), -1, 1);
        }
        CHECK.due("good 3", x, x.bars(3, 0, false), -1, 1);
        CHECK.due("good 2", x, x.bars(2, 0, false), 0, 0);
        CHECK.due("gate 2", x, x.bars(0, 2, false), -1, 1);
        CHECK.due("gate 1", x, x.bars(0, 1, false), 2, 0);
        CHECK.due("1 goes ahead of 5", x, x.bars(1, 2, true), -1, 1);
        CHECK.due("no parts", x, x.bars(1, 0, true), -1, 5);
        CHECK.due("holy with parts", x, x.bars(2, 0, true), -1, 5);
        CHECK.due("parts", x, x.bars(0, 0, true), 0, 0);
        CHECK.due("close", x.close(0), true);
        CHECK.due("closed, by its size still", x, x.bars(0, 0, false), 0, 0);
    }

    /** One POSE alone, each of the six on both sides: rings 20 and 8, a gate 10 wide, 6 high. */
    private static void barsOneByOne() {
        CHECK.promise(8, "bars, the first of 1 to 6");
        int[][] rows = {{1, 21, 1, 1}, {1, 20, 1, 2}, {1, 11, 7, 2}, {1, 10, 7, 3}, {99, 10, 6, 4}, {1, 9, 6, 4},
            {23, 8, 6, 5}, {22, 8, 6, 6}, {11, 8, 6, 6}, {10, 8, 6, 0}, {99, 21, 99, 1}, {99, 11, 99, 2},
            {99, 8, 7, 3}, {17, 1, 1, 0}, {18, 1, 1, 6}, {29, 1, 1, 6}, {30, 1, 1, 5}};
        for (int from = 0; from < rows.length; from += 8) {
            StringBuilder text = new StringBuilder("rings 20,8;gate g in 0 at 0 wide 10 high 6 hands 1 toll 0");
            int upTo = Math.min(from + 8, rows.length);
            for (int i = from; i < upTo; i++) {
                text.append(good("p" + (char) ('a' + i), rows[i][0], rows[i][1], rows[i][2], " holy"));
            }
            NarrowRings x = Check.city(text.toString());
            for (int i = from; i < upTo; i++) {
                String what = rows[i][0] + " long, " + rows[i][1] + " wide, " + rows[i][2] + " high";
                CHECK.due(what, x, x.bars(i - from, 0, false), rows[i][3], 0);
                CHECK.due(what + " fits", x.fits(i - from, true, 0, 0), rows[i][3] == 0 ? 1 : 0);
            }
        }
        // A gate wider than both its rings: 1 and 4 meet at their own edges.
        NarrowRings y = Check.city("rings 9,7;gate g in 0 at 0 wide 99 high 99 hands 1 toll 0" + good("a", 1, 10, 1, " holy")
            + good("b", 1, 9, 1, " holy") + good("c", 1, 8, 1, " holy") + good("d", 99, 7, 99, " holy"));
        int[] want = {1, 4, 4, 0};
        for (int good = 0; good < 4; good++) {
            CHECK.due("a wide gate, good " + good, y, y.bars(good, 0, false), want[good], 0);
        }
    }

    private static void barsLeastOfPoses() {
        CHECK.promise(8, "bars, the least of what every POSE meets");
        NarrowRings x = Check.city("rings 20,8;gate g in 0 at 0 wide 10 high 6 hands 1 toll 0"
            + good("a", 1, 11, 7, "") + good("b", 1, 10, 7, "") + good("c", 1, 7, 11, "") + good("d", 1, 5, 10, " tilts")
            + good("e", 1, 5, 10, " tilts holy") + good("f", 20, 9, 6, "") + good("h", 1, 21, 21, " tilts")
            + good("i", 99, 6, 6, " tilts"));
        CHECK.due("2 lying, 3 on its side", x, x.bars(0, 0, false), 2, 0);
        CHECK.due("3 and 3", x, x.bars(1, 0, false), 3, 0);
        CHECK.due("3 lying, 2 on its side", x, x.bars(2, 0, false), 2, 0);
        CHECK.due("3 lying, on its side 4, upright 0", x, x.bars(3, 0, false), 0, 0);
        CHECK.due("holy, upright 0", x, x.bars(4, 0, false), 0, 0);
        CHECK.due("4 lying, 3 on its side", x, x.bars(5, 0, false), 3, 0);
        CHECK.due("1 each", x, x.bars(6, 0, false), 1, 0);
        CHECK.due("5, 5, upright 3", x, x.bars(7, 0, false), 3, 0);
    }

    /** Rings and gate 10 + 5: a part of 10 long, 5 wide just turns. */
    private static void barsCutUpwards() {
        CHECK.promise(8, "bars, CUT: a part's length upwards");
        NarrowRings x = Check.city("rings 10,10;gate g in 0 at 0 wide 5 high 5 hands 1 toll 0"
            + good("a", 20, 5, 5, " parts 2") + good("b", 21, 5, 5, " parts 2") + good("c", 90, 5, 5, " parts 9")
            + good("d", 91, 5, 5, " parts 9") + good("e", 99, 5, 5, " parts 9") + good("f", 1, 5, 5, " parts 9")
            + good("h", 15, 9, 5, " parts 3 tilts") + good("i", 16, 9, 5, " parts 3 tilts"));
        int[] whole = {5, 5, 5, 5, 5, 0, 2, 2};
        // Good 6 and 7 are on their side 5 wide, 9 high (3); upright 9 wide (2).
        int[] cut = {0, 5, 0, 5, 5, 0, 2, 2};
        for (int good = 0; good < 8; good++) {
            CHECK.due("whole, good " + good, x, x.bars(good, 0, false), whole[good], 0);
            CHECK.due("CUT, good " + good, x, x.bars(good, 0, true), cut[good], 0);
        }
        NarrowRings y = Check.city("rings 10,10;gate g in 0 at 0 wide 5 high 5 hands 1 toll 0"
            + good("a", 15, 5, 9, " parts 3 tilts") + good("b", 16, 5, 9, " parts 3 tilts"));
        CHECK.due("upright, a part is as high as it is long: just", y, y.bars(0, 0, true), 0, 0);
        CHECK.due("upright, one higher", y, y.bars(1, 0, true), 2, 0);
    }

    // -- promises 9 and 10

    private static void deepestArguments() {
        NarrowRings x = Check.city("rings 9,9;cart kc in 0 bears 1" + good("a", 2, 2, 2, " parts 2")
            + good("b", 2, 2, 2, "") + good("c", 2, 2, 2, " parts 2 holy"));
        for (int bad : new int[] {-1, 3, LOWEST, HIGHEST}) {
            CHECK.promise(9, "deepest");
            CHECK.due("good " + bad, x, x.deepest(bad), -1, 1);
            CHECK.promise(10, "deepestCut");
            CHECK.due("good " + bad, x, x.deepestCut(bad), -1, 1);
        }
        CHECK.promise(9, "deepest");
        CHECK.due("no gate, so ring 0", x, x.deepest(0), 0, 0);
        CHECK.due("without parts", x, x.deepest(1), 0, 0);
        CHECK.due("holy", x, x.deepest(2), 0, 0);
        CHECK.promise(10, "deepestCut");
        CHECK.due("no gate, so ring 0", x, x.deepestCut(0), 0, 0);
        CHECK.due("without parts", x, x.deepestCut(1), -1, 5);
        CHECK.due("holy with parts", x, x.deepestCut(2), -1, 5);
        NarrowRings y = Check.city("rings 9,9;cart kc in 1 bears 9" + good("a", 2, 2, 2, " parts 2") + good("b", 2, 2, 2, ""));
        CHECK.promise(9, "deepest");
        CHECK.due("no cart in ring 0", y, y.deepest(0), -2, 0);
        CHECK.promise(10, "deepestCut");
        CHECK.due("no cart in ring 0", y, y.deepestCut(0), -2, 0);
        CHECK.due("5 though ring 0 doesn't BEAR it", y, y.deepestCut(1), -1, 5);
    }

    private static final String THROUGH = ";gate g in 0 at 0 wide 9 high 9 hands 1 toll 0;gate h in 1 at 6 wide 9 high 9 hands 1 toll 0";

    private static void deepestByCarts() {
        CHECK.promise(9, "deepest, some cart of the ring bears it");
        NarrowRings x = Check.city("rings 9,9,9" + THROUGH + ";cart ka in 0 bears 12;cart kb in 1 bears 3;cart kc in 1 bears 11;"
            + "cart kd in 2 bears 10;good a long 1 wide 1 high 1 weighs 10;good b long 1 wide 1 high 1 weighs 11;"
            + "good c long 1 wide 1 high 1 weighs 12;good d long 1 wide 1 high 1 weighs 13");
        int[] want = {2, 1, 0, -2};
        for (int good = 0; good < 4; good++) {
            CHECK.due("weighs " + (10 + good), x, x.deepest(good), want[good], 0);
        }
        NarrowRings y = Check.city("rings 9,9,9" + THROUGH + ";cart ka in 0 bears 1;cart kd in 2 bears 1" + good("a", 1, 1, 1, ""));
        CHECK.due("ring 1 has no cart, ring 2 has", y, y.deepest(0), 0, 0);
    }

    private static void deepestByGates() {
        CHECK.promise(9, "deepest, come to from ring 0");
        String carts = ";cart ka in 0 bears 1;cart kb in 1 bears 1;cart kc in 2 bears 1";
        NarrowRings x = Check.city("rings 9,8,7" + THROUGH + carts + good("a", 1, 7, 1, " holy") + good("b", 1, 8, 1, " holy")
            + good("c", 1, 9, 1, " holy") + good("d", 1, 10, 1, " holy") + good("e", 1, 10, 9, ""));
        int[] want = {2, 1, 0, -2, 0};
        for (int good = 0; good < 5; good++) {
            CHECK.due("good " + good, x, x.deepest(good), want[good], 0);
        }
        CHECK.due("close the inner gate", x.close(1), true);
        CHECK.due("as deep as the outer one", x, x.deepest(0), 1, 0);
        CHECK.due("close the outer gate", x.close(0), true);
        CHECK.due("nothing goes through", x, x.deepest(0), 0, 0);
        CHECK.due("dig", x.dig(0, 11, 9, 9, 1, 0), 2);
        CHECK.due("by any place", x, x.deepest(0), 1, 0);
        NarrowRings y = Check.city("rings 9,9,9;gate h in 1 at 6 wide 9 high 9 hands 1 toll 0" + carts + good("a", 1, 1, 1, ""));
        CHECK.due("no outer gate", y, y.deepest(0), 0, 0);
        // What is too wide on its side may lie; what is too wide lying may be on its side.
        NarrowRings v = Check.city("rings 9,9;gate g in 0 at 0 wide 9 high 99 hands 1 toll 0" + carts.replace("in 2", "in 1")
            + good("a", 1, 9, 10, "") + good("b", 10, 9, 10, " tilts") + good("c", 8, 10, 9, " tilts") + good("d", 1, 10, 10, " tilts"));
        int[] lies = {1, 0, 1, -2};
        for (int good = 0; good < 4; good++) {
            CHECK.due("a ring takes it in some POSE, good " + good, v, v.deepest(good), lies[good], 0);
        }
        // The POSE may change from gate to gate.
        NarrowRings z = Check.city("rings 9,9,9;gate g in 0 at 0 wide 9 high 1 hands 1 toll 0;"
            + "gate h in 1 at 0 wide 1 high 9 hands 1 toll 0" + carts + good("a", 1, 9, 1, "") + good("b", 1, 9, 1, " holy"));
        CHECK.due("each time anew", z, z.deepest(0), 2, 0);
        CHECK.due("not so if it is holy", z, z.deepest(1), 1, 0);
        NarrowRings w = Check.city("rings 9,9,9,9,9,9" + THROUGH + carts + good("a", 1, 1, 1, "")
            + ";gate i in 2 at 1 wide 1 high 1 hands 1 toll 0;gate j in 3 at 1 wide 1 high 1 hands 1 toll 0;"
            + "gate k in 4 at 1 wide 1 high 1 hands 1 toll 0;cart kd in 3 bears 1;cart ke in 4 bears 1;cart kf in 5 bears 1");
        CHECK.due("the innermost of six", w, w.deepest(0), 5, 0);
    }

    private static void deepestCutUpwards() {
        CHECK.promise(10, "deepestCut, a part's weight upwards");
        NarrowRings x = Check.city("rings 9,9;gate g in 0 at 0 wide 9 high 9 hands 1 toll 0;cart ka in 0 bears 11;"
            + "cart kb in 1 bears 10;good a long 1 wide 1 high 1 weighs 20 parts 2;good b long 1 wide 1 high 1 weighs 21 parts 2;"
            + "good c long 1 wide 1 high 1 weighs 22 parts 2;good d long 1 wide 1 high 1 weighs 23 parts 2;"
            + "good e long 1 wide 1 high 1 weighs 90 parts 9;good f long 1 wide 1 high 1 weighs 91 parts 9;"
            + "good h long 1 wide 1 high 1 weighs 99 parts 9;good i long 1 wide 1 high 1 weighs 1 parts 9");
        int[] want = {1, 0, 0, -2, 1, 0, 0, 1};
        for (int good = 0; good < 8; good++) {
            CHECK.due("CUT, good " + good, x, x.deepestCut(good), want[good], 0);
            CHECK.due("whole, good " + good, x.deepest(good), good == 7 ? 1 : -2);
        }
        CHECK.promise(10, "deepestCut, a part's length upwards");
        NarrowRings y = Check.city("rings 10,10;gate g in 0 at 0 wide 5 high 5 hands 1 toll 0;cart ka in 0 bears 1;"
            + "cart kb in 1 bears 1" + good("a", 20, 5, 5, " parts 2") + good("b", 21, 5, 5, " parts 2") + good("c", 30, 5, 5, " parts 3"));
        CHECK.due("just", y, y.deepestCut(0), 1, 0);
        CHECK.due("one more", y, y.deepestCut(1), 0, 0);
        CHECK.due("in three", y, y.deepestCut(2), 1, 0);
        CHECK.due("not whole", y, y.deepest(0), 0, 0);
        CHECK.due("close", y.close(0), true);
        CHECK.due("nothing goes through", y, y.deepestCut(0), 0, 0);
    }

    /** Eight carts of which none bears it, eleven gates of which none lets it through, and the last that does. */
    private static void fullTables() {
        StringBuilder gates = new StringBuilder();
        for (int g = 0; g < 11; g++) {
            gates.append(";gate g").append((char) ('a' + g)).append(" in 0 at 0 wide ").append(g == 10 ? 2 : 1)
                .append(" high 9 hands 1 toll 0");
        }
        StringBuilder carts = new StringBuilder();
        for (int c = 0; c < 8; c++) {
            carts.append(";cart k").append((char) ('a' + c)).append(c < 4 ? " in 1 bears " : " in 0 bears ").append(c % 4 == 3 ? 2 : 1);
        }
        NarrowRings x = Check.city("rings 9,9" + gates + carts + ";good a long 1 wide 2 high 2 weighs 2 parts 2;"
            + "good b long 1 wide 3 high 3 weighs 2 parts 2;good c long 1 wide 1 high 1 weighs 3 parts 3;"
            + "good d long 1 wide 1 high 1 weighs 9 parts 2");
        int[] deepest = {1, 0, -2, -2};
        int[] cut = {1, 0, 1, -2};
        for (int good = 0; good < 4; good++) {
            CHECK.promise(9, "deepest, by the last of eleven gates and of eight carts");
            CHECK.due("good " + good, x, x.deepest(good), deepest[good], 0);
            CHECK.promise(10, "deepestCut, by the last of eleven gates and of eight carts");
            CHECK.due("good " + good, x, x.deepestCut(good), cut[good], 0);
        }
        CHECK.promise(7, "fits, the last of eleven gates");
        CHECK.due("gate 10", x, x.fits(0, true, 10, 0), 1, 0);
        CHECK.due("gate 9", x, x.fits(0, true, 9, 0), 0, 0);
        CHECK.due("gate 11", x, x.fits(0, true, 11, 0), -1, 1);
        CHECK.promise(8, "bars, the last of eleven gates");
        CHECK.due("gate 10", x, x.bars(0, 10, false), 0, 0);
        CHECK.due("gate 9", x, x.bars(0, 9, true), 2, 0);
        CHECK.due("gate 11", x, x.bars(0, 11, true), -1, 1);
        CHECK.promise(9, "deepest, carts and gates of an earlier city");
        CHECK.due("another city", Check.tell(x, "rings 9,9"), 2);
        CHECK.due("with one cart and no gate", Check.tell(x, "rings 9,9;cart c in 0 bears 1;"
            + "good p long 1 wide 1 high 1 weighs 1;good q long 1 wide 1 high 1 weighs 2"), 2);
        CHECK.due("no gate", x, x.deepest(0), 0, 0);
        CHECK.due("no cart that bears it", x, x.deepest(1), -2, 0);
    }
}
