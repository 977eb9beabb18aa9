/** Promises 6 to 10: gate, fits, bars, deepest, deepestCut; POSES, FITS, TURNS, CUT, BEARS. */
public final class FitTest {
    private static final Check CHECK = new Check("FitTest");
    private static final String GATES = "rings 20,14,9;gate g in 0 at 3 wide 10 high 12 hands 4 toll 2;"
        + "gate h in 1 at 6 wide 8 high 9 hands 2 toll 5;";
    private static final String CARTS = "cart a in 0 bears 50;cart b in 1 bears 30;cart c in 2 bears 30;";

    public static void main(String[] args) {
        gates();
        poses();
        turning();
        bars();
        deepest();
        closedGates();
        CHECK.end();
    }

    private static void gates() {
        NarrowRings x = Check.city(GATES + "gate k in 0 at 11 wide 1 high 2 hands 9 toll 0");
        int[][] rows = {{0, 3, 10, 12, 4, 2, 0}, {1, 6, 8, 9, 2, 5, 0}, {0, 11, 1, 2, 9, 0, 0}};
        for (int g = 0; g < 3; g++) {
            for (int what = 0; what < 7; what++) {
                CHECK.due("gate(" + g + ", " + what + ")", x, x.gate(g, what), rows[g][what], 0);
            }
        }
        CHECK.due("gate(3, 0)", x, x.gate(3, 0), -1, 1);
        CHECK.due("gate(-1, 0)", x, x.gate(-1, 0), -1, 1);
        CHECK.due("gate(0, 7)", x, x.gate(0, 7), -1, 1);
        CHECK.due("gate(0, -1)", x, x.gate(0, -1), -1, 1);
        CHECK.due("widen", x.widen(0, 11, 5), true);
        CHECK.due("close", x.close(0), true);
        CHECK.due("gate wide now", x.gate(0, 2), 11);
        CHECK.due("gate high now", x.gate(0, 3), 12);
        CHECK.due("gate closed now", x.gate(0, 6), 1);
    }

    private static void poses() {
        NarrowRings x = Check.city(GATES + "good box long 8 wide 4 high 9 weighs 10 tilts;"
            + "good idol long 12 wide 9 high 10 weighs 10 parts 2 holy;"
            + "good both long 9 wide 9 high 10 weighs 10 tilts holy");
        CHECK.due("box lies in ring 2", x, x.fits(0, false, 2, 0), 1, 0);
        CHECK.due("box on its side in ring 2", x, x.fits(0, false, 2, 1), 1, 0);
        CHECK.due("box upright in ring 2", x, x.fits(0, false, 2, 2), 1, 0);
        CHECK.due("box lies in gate h", x, x.fits(0, true, 1, 0), 1, 0);
        CHECK.due("box on its side in gate h, too wide", x, x.fits(0, true, 1, 1), 0, 0);
        CHECK.due("box upright in gate h", x, x.fits(0, true, 1, 2), 1, 0);
        CHECK.due("idol has no side", x, x.fits(1, false, 2, 1), -1, 5);
        CHECK.due("idol doesn't tilt", x, x.fits(1, false, 2, 2), -1, 5);
        CHECK.due("idol lies, just as wide", x, x.fits(1, false, 2, 0), 1, 0);
        CHECK.due("holy tilts", x, x.fits(2, true, 0, 2), 1, 0);
        CHECK.due("holy lies on no side", x, x.fits(2, true, 0, 1), -1, 5);
        CHECK.due("no good", x, x.fits(3, false, 0, 0), -1, 1);
        CHECK.due("no ring", x, x.fits(0, false, 3, 0), -1, 1);
        CHECK.due("no gate", x, x.fits(0, true, 2, 0), -1, 1);
        CHECK.due("no pose", x, x.fits(0, false, 0, 3), -1, 1);
        CHECK.due("no pose below", x, x.fits(0, false, 0, -1), -1, 1);
        CHECK.due("no ring goes ahead of no such pose", x, x.fits(1, false, -1, 1), -1, 1);
    }

    private static void turning() {
        NarrowRings x = Check.city(GATES + "good a long 22 wide 2 high 3 weighs 1 holy;"
            + "good b long 23 wide 2 high 3 weighs 1 holy;good c long 20 wide 2 high 2 weighs 1");
        CHECK.due("just turns inside", x.fits(0, true, 0, 0), 1);
        CHECK.due("no more inside", x.fits(1, true, 0, 0), 0);
        CHECK.due("bars it inside", x.bars(1, 0, false), 6);
        CHECK.due("bars it outside", x.bars(0, 1, false), 5);
        CHECK.due("just turns outside, not inside", x.bars(2, 1, false), 6);
    }

    private static void bars() {
        NarrowRings x = Check.city("rings 20,8;gate g in 0 at 0 wide 10 high 6 hands 1 toll 0;"
            + "gate k in 0 at 0 wide 30 high 6 hands 1 toll 0;"
            + "good a long 1 wide 21 high 1 weighs 1 holy;good b long 1 wide 11 high 7 weighs 1 holy;"
            + "good c long 1 wide 10 high 7 weighs 1 holy;good d long 1 wide 9 high 1 weighs 1 holy;"
            + "good e long 7 wide 11 high 9 weighs 1;good f long 30 wide 4 high 4 weighs 1 parts 2;"
            + "good i long 1 wide 7 high 11 weighs 1 parts 2 holy;good j long 3 wide 7 high 11 weighs 1 tilts");
        CHECK.due("outer ring is narrower", x.bars(0, 0, false), 1);
        CHECK.due("outer ring, though the gate is wide", x.bars(0, 1, false), 1);
        CHECK.due("gate is narrower", x.bars(1, 0, false), 2);
        CHECK.due("gate is lower", x.bars(2, 0, false), 3);
        CHECK.due("inner ring is narrower", x.bars(3, 0, false), 4);
        CHECK.due("least of two poses", x.bars(4, 0, false), 2);
        CHECK.due("whole doesn't turn", x.bars(5, 0, false), 5);
        CHECK.due("cut it turns inside no more", x.bars(5, 0, true), 6);
        CHECK.due("nothing, cut", x, x.bars(5, 1, true), 0, 0);
        CHECK.due("holy isn't cut", x, x.bars(6, 0, true), -1, 5);
        CHECK.due("without parts neither", x, x.bars(0, 0, true), -1, 5);
        CHECK.due("some pose fits", x, x.bars(7, 0, false), 0, 0);
        CHECK.due("no good", x, x.bars(8, 0, true), -1, 1);
        CHECK.due("no gate", x, x.bars(0, 2, true), -1, 1);
        CHECK.due("no gate below", x, x.bars(0, -1, false), -1, 1);
    }

    private static void deepest() {
        NarrowRings x = Check.city(GATES + CARTS + "good mast long 22 wide 2 high 2 weighs 30 parts 3;"
            + "good heavy long 1 wide 1 high 1 weighs 51 parts 2;good lead long 1 wide 1 high 1 weighs 31 parts 2 holy;"
            + "good wide long 1 wide 21 high 30 weighs 1;good side long 1 wide 21 high 9 weighs 1");
        CHECK.due("mast", x, x.deepest(0), 1, 0);
        CHECK.due("mast cut", x, x.deepestCut(0), 2, 0);
        CHECK.due("too heavy for ring 0", x, x.deepest(1), -2, 0);
        CHECK.due("cut it is not", x, x.deepestCut(1), 2, 0);
        CHECK.due("ring 1 has no such cart", x, x.deepest(2), 0, 0);
        CHECK.due("holy isn't cut", x, x.deepestCut(2), -1, 5);
        CHECK.due("too wide for ring 0", x, x.deepest(3), -2, 0);
        CHECK.due("on its side in ring 0, not through the gate", x, x.deepest(4), 0, 0);
        CHECK.due("no good", x, x.deepest(5), -1, 1);
        CHECK.due("no good cut", x, x.deepestCut(-1), -1, 1);
        NarrowRings y = Check.city("rings 9,9,9;gate g in 0 at 0 wide 9 high 9 hands 1 toll 0;"
            + "gate h in 1 at 0 wide 9 high 9 hands 1 toll 0;cart a in 0 bears 2;cart b in 2 bears 2;"
            + "good p long 1 wide 1 high 1 weighs 2;good q long 1 wide 1 high 1 weighs 3 parts 2");
        CHECK.due("no cart on the way", y.deepest(0), 0);
        CHECK.due("part upwards", y.deepestCut(1), 0);
        CHECK.due("whole too heavy", y.deepest(1), -2);
    }

    private static void closedGates() {
        NarrowRings x = Check.city(GATES + CARTS + "good box long 2 wide 2 high 2 weighs 10");
        CHECK.due("deepest", x.deepest(0), 2);
        CHECK.due("close", x.close(0), true);
        CHECK.due("deepest by a closed gate", x.deepest(0), 0);
        CHECK.due("fits by its size still", x.fits(0, true, 0, 0), 1);
        CHECK.due("bars by its size still", x.bars(0, 0, false), 0);
    }
}
