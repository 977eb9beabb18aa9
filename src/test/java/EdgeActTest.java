import java.util.NoSuchElementException;

/** The edges of ACTS and TROUBLE and of promises 36 to 39, 41 and 42: widen, dig, close, undo, size, trouble. */
public final class EdgeActTest {
    private static final Check CHECK = new Check("EdgeActTest");
    private static final int LOWEST = Integer.MIN_VALUE;
    private static final int HIGHEST = Integer.MAX_VALUE;
    private static final int[] NO_SIZES = {0, -1, 100, LOWEST, HIGHEST};
    private static final String CITY = "rings 20,20,9;gate g in 0 at 3 wide 4 high 4 hands 1 toll 9;"
        + "gate h in 1 at 3 wide 9 high 9 hands 1 toll 9;cart a in 0 bears 9;cart b in 1 bears 9;"
        + "good p long 1 wide 5 high 5 weighs 2 parts 2;good q long 1 wide 1 high 1 weighs 9 holy;"
        + "order x of p from 0,0 to 1,0 hour 0;order y of q from 0,1 to 0,2 hour 0";
    /** How many calls give() and refused() know. */
    private static final int GIVEN = 36;
    private static final int REFUSED = 74;

    public static void main(String[] args) {
        widenArguments();
        widenIfThatIsMore();
        digArguments();
        digElevenGates();
        closeArguments();
        actsBeginTheDay();
        undoArguments();
        undoEach();
        tenAreKept();
        sizes();
        troubleOfEachCall();
        troubleWithoutACity();
        troubleStays();
        refusedChangeNothing();
        CHECK.end();
    }

    // -- promise 36

    private static void widenArguments() {
        CHECK.promise(36, "widen");
        NarrowRings none = new NarrowRings();
        CHECK.due("no CITY", none, none.widen(0, 1, 1), false, 1);
        NarrowRings x = Check.city(CITY);
        for (int bad : new int[] {-1, 2, LOWEST, HIGHEST}) {
            CHECK.due("gate " + bad, x, x.widen(bad, 9, 9), false, 1);
            CHECK.due("1 ahead of 2, gate " + bad, x, x.widen(bad, 0, 100), false, 1);
        }
        for (int bad : NO_SIZES) {
            CHECK.due("wide " + bad, x, x.widen(0, bad, 9), false, 2);
            CHECK.due("high " + bad, x, x.widen(0, 9, bad), false, 2);
            CHECK.due("2 ahead of 5, wide " + bad, x, x.widen(0, bad, 1), false, 2);
            CHECK.due("2 ahead of 5, high " + bad, x, x.widen(0, 1, bad), false, 2);
        }
        CHECK.due("the least is not more", x, x.widen(0, 1, 1), false, 5);
        CHECK.due("nothing is changed", x.gate(0, 2), 4);
        CHECK.due("no ACT", x.size(7), 0);
        CHECK.due("the greatest", x, x.widen(0, 99, 99), true, 0);
        CHECK.due("the greatest is not more", x, x.widen(0, 99, 99), false, 5);
        CHECK.due("the last gate", x, x.widen(1, 10, 1), true, 0);
        CHECK.due("close", x.close(1), true);
        CHECK.due("1 ahead of 5", x, x.widen(2, 11, 11), false, 1);
        CHECK.due("2 ahead of 5, CLOSED", x, x.widen(1, 0, 11), false, 2);
        CHECK.due("CLOSED", x, x.widen(1, 11, 11), false, 5);
        CHECK.due("undo", x.undo(), true);
        CHECK.due("open again", x, x.widen(1, 11, 1), true, 0);
    }

    private static void widenIfThatIsMore() {
        CHECK.promise(36, "widen, if that is more");
        int[][] rows = {{4, 4, 4, 4}, {3, 4, 4, 4}, {4, 3, 4, 4}, {1, 1, 4, 4}, {5, 4, 5, 4}, {4, 5, 4, 5}, {5, 5, 5, 5},
            {5, 1, 5, 4}, {1, 5, 4, 5}, {99, 1, 99, 4}, {1, 99, 4, 99}};
        for (int[] row : rows) {
            boolean more = row[2] > 4 || row[3] > 4;
            NarrowRings x = Check.city(CITY);
            CHECK.due("widen to " + row[0] + ", " + row[1], x, x.widen(0, row[0], row[1]), more, more ? 0 : 5);
            int[] gate = {0, 3, row[2], row[3], 1, 9, 0};
            for (int what = 0; what < 7; what++) {
                CHECK.due("then gate(0, " + what + ")", x.gate(0, what), gate[what]);
            }
            CHECK.due("ACTS", x.size(7), more ? 1 : 0);
            boolean through = row[2] >= 5 && row[3] >= 5;
            CHECK.due("payOf", x.payOf(0), through ? 11 : -2);
        }
    }

    // -- promise 37

    private static void digArguments() {
        CHECK.promise(37, "dig");
        NarrowRings none = new NarrowRings();
        CHECK.due("no CITY", none, none.dig(0, 0, 1, 1, 1, 0), -1, 1);
        CHECK.due("no CITY ahead of a number", none, none.dig(0, 0, 0, 0, 0, -1), -1, 1);
        NarrowRings x = Check.city(CITY);
        for (int bad : new int[] {-1, 2, 3, LOWEST, HIGHEST}) {
            CHECK.due("ring " + bad, x, x.dig(bad, 0, 1, 1, 1, 0), -1, 1);
            CHECK.due("1 ahead of 2, ring " + bad, x, x.dig(bad, 0, 0, 1, 1, 0), -1, 1);
        }
        for (int bad : new int[] {-1, 12, LOWEST, HIGHEST}) {
            CHECK.due("place " + bad, x, x.dig(0, bad, 1, 1, 1, 0), -1, 1);
            CHECK.due("1 ahead of 2, place " + bad, x, x.dig(0, bad, 1, 100, 1, 0), -1, 1);
        }
        for (int bad : NO_SIZES) {
            CHECK.due("wide " + bad, x, x.dig(0, 0, bad, 1, 1, 0), -1, 2);
            CHECK.due("high " + bad, x, x.dig(0, 0, 1, bad, 1, 0), -1, 2);
        }
        for (int bad : new int[] {0, -1, 10, LOWEST, HIGHEST}) {
            CHECK.due("hands " + bad, x, x.dig(0, 0, 1, 1, bad, 0), -1, 2);
        }
        for (int bad : new int[] {-1, 100, LOWEST, HIGHEST}) {
            CHECK.due("toll " + bad, x, x.dig(0, 0, 1, 1, 1, bad), -1, 2);
        }
        CHECK.due("no ACT", x.size(7), 0);
        CHECK.due("gates", x.size(1), 2);
        int[][] rows = {{0, 0, 1, 1, 1, 0}, {1, 11, 99, 99, 9, 99}, {0, 11, 1, 99, 9, 0}};
        for (int i = 0; i < rows.length; i++) {
            int[] r = rows[i];
            CHECK.due("dig " + i, x, x.dig(r[0], r[1], r[2], r[3], r[4], r[5]), 2 + i, 0);
            for (int what = 0; what < 7; what++) {
                CHECK.due("gate(" + (2 + i) + ", " + what + ")", x, x.gate(2 + i, what), what < 6 ? r[what] : 0, 0);
            }
        }
        for (int rings = 2; rings <= 6; rings++) {
            NarrowRings y = Check.city("rings 9,9,9,9,9,9".substring(0, 5 + 2 * rings));
            CHECK.due("the innermost of " + rings, y, y.dig(rings - 1, 0, 1, 1, 1, 0), -1, 1);
            CHECK.due("the one outside it", y, y.dig(rings - 2, 0, 1, 1, 1, 0), 0, 0);
        }
    }

    private static void digElevenGates() {
        CHECK.promise(37, "dig, 3 (11 are)");
        NarrowRings x = Check.city("rings 9,9");
        for (int g = 0; g < 11; g++) {
            CHECK.due("dig " + g, x, x.dig(0, g, 1, 1, 1, 0), g, 0);
            CHECK.due("gates now", x.size(1), g + 1);
        }
        CHECK.due("a twelfth", x, x.dig(0, 11, 1, 1, 1, 0), -1, 3);
        CHECK.due("1 ahead of 3", x, x.dig(1, 0, 1, 1, 1, 0), -1, 1);
        CHECK.due("2 ahead of 3", x, x.dig(0, 0, 1, 1, 0, 0), -1, 2);
        CHECK.due("gates", x.size(1), 11);
        CHECK.due("ACTS", x.size(7), 10);
        CHECK.due("close one", x.close(10), true);
        CHECK.due("a closed one is one of them", x, x.dig(0, 11, 1, 1, 1, 0), -1, 3);
        CHECK.due("undo close", x.undo(), true);
        CHECK.due("undo dig", x.undo(), true);
        CHECK.due("ten", x.size(1), 10);
        CHECK.due("dig again", x, x.dig(0, 11, 2, 3, 4, 5), 10, 0);
        CHECK.due("another", x.gate(10, 1), 11);
        CHECK.due("a twelfth", x, x.dig(0, 11, 1, 1, 1, 0), -1, 3);
        StringBuilder text = new StringBuilder("rings 9,9");
        for (int g = 0; g < 11; g++) {
            text.append(";gate g").append((char) ('a' + g)).append(" in 0 at 0 wide 1 high 1 hands 1 toll 0");
        }
        NarrowRings y = Check.city(text.toString());
        CHECK.due("told, a twelfth", y, y.dig(0, 0, 1, 1, 1, 0), -1, 3);
        CHECK.due("no ACT", y.size(7), 0);
        NarrowRings z = Check.city(text.substring(0, text.lastIndexOf(";")));
        CHECK.due("told, an eleventh", z, z.dig(0, 0, 1, 1, 1, 0), 10, 0);
        CHECK.due("a twelfth", z, z.dig(0, 0, 1, 1, 1, 0), -1, 3);
    }

    // -- promise 38

    private static void closeArguments() {
        CHECK.promise(38, "close");
        NarrowRings none = new NarrowRings();
        CHECK.due("no CITY", none, none.close(0), false, 1);
        NarrowRings x = Check.city(CITY);
        for (int bad : new int[] {-1, 2, LOWEST, HIGHEST}) {
            CHECK.due("gate " + bad, x, x.close(bad), false, 1);
        }
        for (int g = 1; g >= 0; g--) {
            CHECK.due("open " + g, x.gate(g, 6), 0);
            CHECK.due("close " + g, x, x.close(g), true, 0);
            CHECK.due("closed " + g, x.gate(g, 6), 1);
            CHECK.due("it is, " + g, x, x.close(g), false, 5);
        }
        CHECK.due("ACTS", x.size(7), 2);
        CHECK.due("undo", x.undo(), true);
        CHECK.due("the other is still", x, x.close(1), false, 5);
        CHECK.due("this one is not", x, x.close(0), true, 0);
        NarrowRings y = Check.city("rings 9,9");
        CHECK.due("no gate", y, y.close(0), false, 1);
        CHECK.due("dig", y.dig(0, 0, 1, 1, 1, 0), 0);
        CHECK.due("one that is dug", y, y.close(0), true, 0);
        CHECK.promise(38, "close, nothing goes through");
        NarrowRings z = Check.city(CITY.replace("wide 4 high 4", "wide 5 high 5"));
        CHECK.due("all", z.all(), 11);
        CHECK.due("deepest", z.deepest(0), 1);
        CHECK.due("deepestCut", z.deepestCut(0), 1);
        CHECK.due("ram", z.ram(1, 5, 5), 2);
        CHECK.due("theft", z.theft(0, 1, 3, 2, false), 1);
        CHECK.due("close", z.close(0), true);
        CHECK.due("all", z.all(), 9999);
        CHECK.due("deepest", z.deepest(0), 0);
        CHECK.due("deepestCut", z.deepestCut(0), 0);
        CHECK.due("ram", z.ram(1, 5, 5), 0);
        CHECK.due("ramBy", z.ramBy(0, 1, 5, 5, 99), 0);
        CHECK.due("theft", z.theft(0, 1, 3, 99, false), 0);
        CHECK.due("theft CUT", z.theft(0, 1, 3, 99, true), 0);
        CHECK.due("fits by its size", z.fits(0, true, 0, 0), 1);
        CHECK.due("bars by its size", z.bars(0, 0, false), 0);
        CHECK.due("bars CUT by its size", z.bars(0, 0, true), 0);
    }

    // -- all ACTS, promise 39

    private static boolean act(NarrowRings x, int act) {
        switch (act) {
            case 0: return x.widen(0, 5, 5);
            case 1: return x.dig(0, 3, 9, 9, 1, 9) == 2;
            case 2: return x.close(1);
            default: return x.undo();
        }
    }

    private static void actsBeginTheDay() {
        for (int act = 0; act < 4; act++) {
            CHECK.promise(36 + act, "the DAY begins anew");
            NarrowRings x = Check.city(CITY);
            CHECK.due("an ACT ahead of it", x.widen(1, 1, 10), true);
            CHECK.due("pass", x.pass(1), 1);
            CHECK.due("mark", x.mark(), 0);
            CHECK.due("on a cart", x.load(0, 3), 2);
            CHECK.due("act " + act, x, act(x, act), true, 0);
            CHECK.due("HOUR", x.size(5), 0);
            CHECK.due("MARKS", x.size(6), 0);
            CHECK.due("loads", x.loads(), act < 2 ? 2 : 1);
            CHECK.due("not begun", x.load(0, 3), 0);
            CHECK.due("the cart is free", x.cart(0), -2);
            CHECK.due("ACTS", x.size(7), act < 3 ? 2 : 0);
        }
    }

    private static void undoArguments() {
        CHECK.promise(39, "undo, 6");
        NarrowRings none = new NarrowRings();
        CHECK.due("no CITY", none, none.undo(), false, 6);
        NarrowRings x = Check.city(CITY);
        CHECK.due("no ACT", x, x.undo(), false, 6);
        CHECK.due("refused", x, x.widen(0, 1, 1), false, 5);
        CHECK.due("no ACT by that", x, x.undo(), false, 6);
        CHECK.due("close", x.close(0), true);
        CHECK.due("one", x, x.undo(), true, 0);
        CHECK.due("no more", x, x.undo(), false, 6);
        CHECK.due("close", x.close(0), true);
        CHECK.due("a FAULT", Check.tell(x, "rings"), -1);
        CHECK.due("it stays", x.size(7), 1);
        CHECK.due("a CITY", Check.tell(x, "rings 9,9"), 2);
        CHECK.due("nothing to undo", x, x.undo(), false, 6);
    }

    private static void undoEach() {
        for (int act = 0; act < 3; act++) {
            CHECK.promise(39, "undo of act " + act);
            NarrowRings x = Check.city(CITY);
            CHECK.due("act", act(x, act), true);
            CHECK.due("undo", x, x.undo(), true, 0);
            int[][] rows = {{0, 3, 4, 4, 1, 9, 0}, {1, 3, 9, 9, 1, 9, 0}};
            CHECK.due("gates", x.size(1), 2);
            for (int g = 0; g < 2; g++) {
                for (int what = 0; what < 7; what++) {
                    CHECK.due("gate(" + g + ", " + what + ")", x.gate(g, what), rows[g][what]);
                }
            }
            CHECK.due("no third", x, x.gate(2, 0), -1, 1);
            CHECK.due("all", x.all(), 9999);
            CHECK.due("act again", act(x, act), true);
            CHECK.due("ACTS", x.size(7), 1);
        }
        CHECK.promise(39, "undo, the latest first");
        NarrowRings x = Check.city(CITY);
        CHECK.due("widen", x.widen(0, 5, 5), true);
        CHECK.due("dig", x.dig(1, 0, 1, 2, 3, 4), 2);
        CHECK.due("widen what is dug", x.widen(2, 7, 1), true);
        CHECK.due("close what is dug", x.close(2), true);
        CHECK.due("close", x.close(0), true);
        CHECK.due("undo", x.undo(), true);
        CHECK.due("open", x.gate(0, 6), 0);
        CHECK.due("closed still", x.gate(2, 6), 1);
        CHECK.due("undo", x.undo(), true);
        CHECK.due("open", x.gate(2, 6), 0);
        CHECK.due("wide still", x.gate(2, 2), 7);
        CHECK.due("undo", x.undo(), true);
        CHECK.due("as dug", x.gate(2, 2), 1);
        CHECK.due("as high", x.gate(2, 3), 2);
        CHECK.due("undo", x.undo(), true);
        CHECK.due("not dug", x.size(1), 2);
        CHECK.due("widened still", x.gate(0, 2), 5);
        CHECK.due("undo", x.undo(), true);
        CHECK.due("as told", x.gate(0, 2), 4);
        CHECK.due("no more", x, x.undo(), false, 6);
    }

    private static void tenAreKept() {
        CHECK.promise(39, "undo, 10 are kept");
        for (int acts : new int[] {9, 10, 11, 25}) {
            NarrowRings x = Check.city(CITY);
            for (int i = 1; i <= acts; i++) {
                CHECK.due("widen", x.widen(0, 4 + i, 1), true);
                CHECK.due("ACTS", x.size(7), Math.min(i, 10));
            }
            int kept = Math.min(acts, 10);
            for (int i = 1; i <= kept; i++) {
                CHECK.due("undo " + i + " of " + acts, x, x.undo(), true, 0);
                CHECK.due("wide", x.gate(0, 2), 4 + acts - i);
                CHECK.due("ACTS", x.size(7), kept - i);
            }
            CHECK.due("no more of " + acts, x, x.undo(), false, 6);
            CHECK.due("wide", x.gate(0, 2), 4 + acts - kept);
        }
        // The oldest, a DIG, is forgotten, so the gate stays.
        NarrowRings x = Check.city(CITY);
        CHECK.due("dig", x.dig(0, 0, 1, 1, 1, 0), 2);
        for (int i = 2; i <= 11; i++) {
            CHECK.due("widen", x.widen(2, i, 1), true);
        }
        for (int i = 10; i >= 1; i--) {
            CHECK.due("undo", x.undo(), true);
            CHECK.due("wide", x.gate(2, 2), i);
        }
        CHECK.due("no more", x, x.undo(), false, 6);
        CHECK.due("it stays dug", x.size(1), 3);
    }

    // -- promise 41

    private static void sizes() {
        CHECK.promise(41, "size");
        NarrowRings none = new NarrowRings();
        for (int what = 0; what <= 8; what++) {
            CHECK.due("what there isn't " + what, none.size(what), 0);
        }
        NarrowRings x = Check.city(CITY);
        for (NarrowRings y : new NarrowRings[] {none, x}) {
            for (int bad : new int[] {-1, 9, LOWEST, HIGHEST}) {
                CHECK.due("others " + bad, y.size(bad), -1);
                CHECK.due("it isn't refused by a number", y.trouble(), 0);
            }
        }
        int[] want = {3, 2, 2, 2, 2, 0, 0, 0, 0};
        for (int what = 0; what <= 8; what++) {
            CHECK.due("size(" + what + ")", x.size(what), want[what]);
        }
        CHECK.due("dig", x.dig(0, 0, 1, 1, 1, 0), 2);
        CHECK.due("pass", x.pass(60), 60);
        CHECK.due("pass", x.pass(60), 120);
        for (int i = 0; i < 3; i++) {
            CHECK.due("mark", x.mark(), i);
        }
        CHECK.due("feed", x.feed(0, 0, 0, 0, 0), 20);
        int[] then = {3, 3, 2, 2, 2, 120, 3, 1, 20};
        for (int what = 0; what <= 8; what++) {
            CHECK.due("then size(" + what + ")", x.size(what), then[what]);
        }
        // As many of each as there may be.
        StringBuilder text = new StringBuilder("rings 9,9,9,9,9,9;good w long 1 wide 1 high 1 weighs 1");
        for (int i = 0; i < 8; i++) {
            text.append(i < 7 ? ";good p? long 1 wide 1 high 1 weighs 1".replace('?', (char) ('a' + i)) : "");
            text.append(";cart k? in 0 bears 1".replace('?', (char) ('a' + i)));
        }
        for (int i = 0; i < 8; i++) {
            text.append(";order o? of w from 0,0 to 0,0 hour 0".replace('?', (char) ('a' + i)));
        }
        NarrowRings full = Check.city(text.toString());
        for (int g = 0; g < 11; g++) {
            CHECK.due("dig", full.dig(0, 0, 1, 1, 1, 0), g);
        }
        int[] most = {6, 11, 8, 8, 8, 0, 0, 10, 0};
        for (int what = 0; what <= 8; what++) {
            CHECK.due("most of size(" + what + ")", full.size(what), most[what]);
        }
    }

    // -- promise 42

    /** CITY with gate 0 closed, two HOURS passed, one MARK. */
    private static NarrowRings city() {
        NarrowRings x = Check.city(CITY);
        CHECK.due("close", x.close(0), true);
        CHECK.due("pass", x.pass(2), 2);
        CHECK.due("mark", x.mark(), 0);
        return x;
    }

    /** A call that is given; all of those that may be refused, one behind the other. */
    private static void give(NarrowRings x, int call) {
        switch (call) {
            case 0: x.gate(0, 0); break;
            case 1: x.fits(0, false, 0, 0); break;
            case 2: x.bars(0, 0, true); break;
            case 3: x.deepest(0); break;
            case 4: x.deepestCut(0); break;
            case 5: x.pay(0, 0, 0, 2, 0); break;
            case 6: x.hours(0, 0, 0, 2, 0); break;
            case 7: x.payOf(0); break;
            case 8: x.hoursOf(0); break;
            case 9: x.loadsOf(1); break;
            case 10: x.all(); break;
            case 11: x.pass(1); break;
            case 12: x.anew(); break;
            case 13: x.loads(); break;
            case 14: x.load(0, 6); break;
            case 15: x.cart(0); break;
            case 16: x.busy(0); break;
            case 17: x.tolls(0); break;
            case 18: x.worked(0); break;
            case 19: x.waited(); break;
            case 20: x.mark(); break;
            case 21: x.back(0); break;
            case 22: x.saves(0, 1, 1); break;
            case 23: x.breach(1, 1); break;
            case 24: x.ram(1, 99, 1); break;
            case 25: x.ramBy(0, 1, 99, 1, 1); break;
            case 26: x.hold(0); break;
            case 27: x.stand(); break;
            case 28: x.theft(0, 0, 0, 0, true); break;
            case 29: x.widen(1, 10, 1); break;
            case 30: x.dig(0, 0, 1, 1, 1, 0); break;
            case 31: x.close(1); break;
            case 32: x.undo(); break;
            case 33: Check.tell(x, "rings 9,9"); break;
            case 34: x.fits(0, true, 0, 0); break;
            default: x.bars(0, 0, false); break;
        }
    }

    /** A call that is refused of city(), and the number by which. */
    private static int refused(NarrowRings x, int call) {
        switch (call) {
            case 0: x.city(1); return 2;
            case 1: x.city(-1); return 2;
            case 2: x.gate(2, 0); return 1;
            case 3: x.gate(0, 7); return 1;
            case 4: x.fits(2, false, 0, 0); return 1;
            case 5: x.fits(0, false, 3, 0); return 1;
            case 6: x.fits(0, true, 2, 0); return 1;
            case 7: x.fits(0, false, 0, 3); return 1;
            case 8: x.fits(1, false, 0, 1); return 5;
            case 9: x.fits(0, false, 0, 2); return 5;
            case 10: x.bars(2, 0, false); return 1;
            case 11: x.bars(0, 2, false); return 1;
            case 12: x.bars(1, 0, true); return 5;
            case 13: x.deepest(2); return 1;
            case 14: x.deepestCut(2); return 1;
            case 15: x.deepestCut(1); return 5;
            case 16: x.pay(0, 0, 0, 3, 0); return 1;
            case 17: x.hours(0, 0, 12, 0, 0); return 1;
            case 18: x.payOf(2); return 1;
            case 19: x.hoursOf(2); return 1;
            case 20: x.loadsOf(2); return 1;
            case 21: x.loadsOf(0); return 6;
            case 22: x.gateOf(2, 0); return 1;
            case 23: x.gateOf(1, 0); return 1;
            case 24: x.gateOf(0, 0); return 6;
            case 25: x.pass(0); return 2;
            case 26: x.pass(61); return 2;
            case 27: x.load(1, 0); return 1;
            case 28: x.load(0, 8); return 1;
            case 29: x.cart(2); return 1;
            case 30: x.busy(2); return 1;
            case 31: x.tolls(2); return 1;
            case 32: x.worked(2); return 1;
            case 33: x.back(1); return 1;
            case 34: x.back(-1); return 1;
            case 35: x.saves(2, 1, 1); return 1;
            case 36: x.saves(0, 0, 1); return 2;
            case 37: x.saves(0, 1, 100); return 2;
            case 38: x.breach(100, 1); return 2;
            case 39: x.breach(1, 0); return 2;
            case 40: x.ram(0, 1, 1); return 2;
            case 41: x.ram(1, 100, 1); return 2;
            case 42: x.ram(1, 1, 0); return 2;
            case 43: x.ramBy(2, 1, 1, 1, 1); return 1;
            default: return refusedMore(x, call);
        }
    }

    private static int refusedMore(NarrowRings x, int call) {
        switch (call) {
            case 44: x.ramBy(0, 100, 1, 1, 1); return 2;
            case 45: x.ramBy(0, 1, 0, 1, 1); return 2;
            case 46: x.ramBy(0, 1, 1, 100, 1); return 2;
            case 47: x.ramBy(0, 1, 1, 1, 0); return 2;
            case 48: x.hold(3); return 1;
            case 49: x.theft(2, 0, 0, 0, false); return 1;
            case 50: x.theft(0, 3, 0, 0, false); return 1;
            case 51: x.theft(0, 0, 12, 0, false); return 1;
            case 52: x.theft(0, 0, 0, 100, false); return 2;
            case 53: x.theft(1, 0, 0, 0, true); return 5;
            case 54: x.widen(2, 9, 9); return 1;
            case 55: x.widen(1, 0, 99); return 2;
            case 56: x.widen(1, 99, 100); return 2;
            case 57: x.widen(1, 9, 9); return 5;
            case 58: x.widen(0, 99, 99); return 5;
            case 59: x.dig(2, 0, 1, 1, 1, 0); return 1;
            case 60: x.dig(0, 12, 1, 1, 1, 0); return 1;
            case 61: x.dig(0, 0, 100, 1, 1, 0); return 2;
            case 62: x.dig(0, 0, 1, 0, 1, 0); return 2;
            case 63: x.dig(0, 0, 1, 1, 10, 0); return 2;
            case 64: x.dig(0, 0, 1, 1, 1, 100); return 2;
            case 65: x.close(2); return 1;
            case 66: x.close(0); return 5;
            case 67: x.pay(2, 0, 0, 0, 0); return 1;
            case 68: x.pay(0, -1, 0, 0, 0); return 1;
            case 69: x.hours(0, 0, 0, 0, 12); return 1;
            case 70: x.gateOf(0, -1); return 1;
            case 71: x.load(-1, 0); return 1;
            case 72: x.hold(-1); return 1;
            default: Check.tell(x, "gate"); return 4;
        }
    }

    private static void troubleOfEachCall() {
        CHECK.promise(42, "trouble, 0: it wasn't");
        for (int call = 0; call < GIVEN; call++) {
            NarrowRings x = city();
            CHECK.due("refused", x, x.hold(3), -1, 1);
            give(x, call);
            CHECK.due("call " + call, x.trouble(), 0);
        }
        NarrowRings y = Check.city(CITY.replace("wide 4 high 4", "wide 5 high 5"));
        CHECK.due("refused", y, y.hold(3), -1, 1);
        CHECK.due("gateOf", y, y.gateOf(0, 0), 0, 0);
        CHECK.promise(42, "trouble, of the latest call");
        for (int call = 0; call < REFUSED; call++) {
            NarrowRings x = city();
            CHECK.due("no trouble", x.trouble(), 0);
            int number = refused(x, call);
            CHECK.due("call " + call, x.trouble(), number);
            CHECK.due("asked again", x.trouble(), number);
            CHECK.due("another that is refused", x, x.hold(-1), -1, 1);
        }
    }

    /** Each after a refusal by another number. */
    private static void troubleWithoutACity() {
        CHECK.promise(42, "trouble, without a CITY");
        for (int call = 0; call < GIVEN; call++) {
            NarrowRings x = new NarrowRings();
            CHECK.due("refused", x, x.city(-1), -1, 2);
            give(x, call);
            // Of these alone UNDO is refused by 6, and a text that is told is none that is refused.
            CHECK.due("call " + call, x.trouble(), call == 32 ? 6 : call == 33 ? 0 : 1);
        }
        NarrowRings x = new NarrowRings();
        CHECK.due("refused", x, x.city(-1), -1, 2);
        CHECK.due("gateOf", x, x.gateOf(0, 0), -1, 1);
    }

    private static void troubleStays() {
        CHECK.promise(42, "trouble, of calls that may be refused alone");
        int[] calls = {2, 0, 8, 21, 73};
        int[] numbers = {1, 2, 5, 6, 4};
        for (int i = 0; i < calls.length; i++) {
            NarrowRings x = city();
            CHECK.due("refused", refused(x, calls[i]), numbers[i]);
            for (int other = 0; other < 8; other++) {
                switch (other) {
                    case 0: CHECK.due("feed", x.feed(0, 0, 0, 0, 0), 20); break;
                    case 1: CHECK.due("fault", x.fault(), numbers[i] == 4 ? 6 : 0); break;
                    case 2: CHECK.due("where", x.where(), numbers[i] == 4 ? 0 : -1); break;
                    case 3: CHECK.due("led", led(x, 0), 0); break;
                    case 4: CHECK.due("led of none", led(x, 1), -9); break;
                    case 5: CHECK.due("size", x.size(0), 3); break;
                    case 6: CHECK.due("size of others", x.size(9), -1); break;
                    default: CHECK.due("trouble", x.trouble(), numbers[i]); break;
                }
                CHECK.due("it stays by " + other, x.trouble(), numbers[i]);
            }
        }
        NarrowRings x = city();
        for (int i = 1; i < 3; i++) {
            CHECK.due("mark", x, x.mark(), i, 0);
        }
        CHECK.due("no room", x, x.mark(), -1, 3);
        CHECK.due("led of none", led(x, -1), -9);
        CHECK.due("it stays", x.trouble(), 3);
    }

    private static int led(NarrowRings x, int i) {
        try {
            return x.led(i);
        } catch (NoSuchElementException e) {
            return -9;
        }
    }

    private static void refusedChangeNothing() {
        CHECK.promise(42, "a call that is refused changes nothing");
        int[] sizes = {3, 2, 2, 2, 2, 2, 1, 1, 0};
        for (int call = 0; call < REFUSED; call++) {
            NarrowRings x = city();
            refused(x, call);
            for (int what = 0; what <= 8; what++) {
                CHECK.due("call " + call + ", size " + what, x.size(what), sizes[what]);
            }
            int[][] gates = {{0, 3, 4, 4, 1, 9, 1}, {1, 3, 9, 9, 1, 9, 0}};
            for (int g = 0; g < 2; g++) {
                for (int what = 0; what < 7; what++) {
                    CHECK.due("call " + call + ", gate(" + g + ", " + what + ")", x.gate(g, what), gates[g][what]);
                }
            }
            int[] load = {1, 0, 2, 5, 0, 0, -2, 1};
            for (int what = 0; what < 8; what++) {
                CHECK.due("call " + call + ", load(0, " + what + ")", x.load(0, what), load[what]);
            }
            CHECK.due("call " + call + ", all", x.all(), 9999);
            CHECK.due("call " + call + ", one MARK", x.back(0), true);
            CHECK.due("call " + call + ", one ACT", x.undo(), true);
            CHECK.due("call " + call + ", no more", x.undo(), false);
        }
    }
}
