/** Promises 29 to 35: saves, breach, ram, ramBy, hold, stand, theft. */
public final class BreachTest {
    private static final Check CHECK = new Check("BreachTest");

    public static void main(String[] args) {
        saving();
        noGate();
        rams();
        stores();
        thefts();
        theftsOfParts();
        CHECK.end();
    }

    private static NarrowRings city() {
        return Check.city("rings 20,20;gate g in 0 at 0 wide 5 high 9 hands 1 toll 9;"
            + "gate h in 0 at 0 wide 4 high 4 hands 1 toll 5;gate k in 0 at 0 wide 4 high 4 hands 1 toll 5;"
            + "cart a in 0 bears 9;cart b in 1 bears 9;good p long 1 wide 5 high 5 weighs 1 holy;"
            + "good q long 1 wide 6 high 2 weighs 1 holy;"
            + "order x of p from 0,0 to 1,0 hour 0;order y of q from 0,0 to 1,0 hour 0");
    }

    private static void saving() {
        NarrowRings x = city();
        CHECK.due("all", x.all(), 10 + 9999);
        CHECK.due("no saving", x, x.saves(1, 4, 4), 0, 0);
        CHECK.due("wider alone", x, x.saves(1, 5, 1), 0, 0);
        CHECK.due("higher alone", x.saves(1, 1, 5), 0);
        CHECK.due("wider and higher", x.saves(1, 5, 5), 4);
        CHECK.due("a way for the other", x.saves(0, 6, 1), 9999 - 10);
        CHECK.due("a way for both", x.saves(1, 6, 5), 4 + 9999 - 6);
        CHECK.due("nothing is changed", x.gate(1, 2), 4);
        CHECK.due("all as before", x.all(), 10009);
        CHECK.due("no gate", x, x.saves(3, 5, 5), -10000, 1);
        CHECK.due("no gate below", x, x.saves(-1, 0, 0), -10000, 1);
        int[][] wrong = {{0, 1}, {100, 1}, {1, 0}, {1, 100}, {-5, 5}};
        for (int[] a : wrong) {
            CHECK.due("a number", x, x.saves(0, a[0], a[1]), -10000, 2);
            CHECK.due("a number", x, x.breach(a[0], a[1]), -1, 2);
        }
        CHECK.due("breach, the first of two", x, x.breach(5, 5), 1, 0);
        CHECK.due("breach that saves most", x, x.breach(6, 1), 1, 0);
        CHECK.due("breach that saves nothing", x, x.breach(1, 1), 0, 0);
        CHECK.due("close", x.close(1), true);
        CHECK.due("a closed gate saves nothing", x, x.saves(1, 9, 9), 0, 0);
        CHECK.due("the next one then", x.breach(5, 5), 2);
        CHECK.due("breach makes no act", x.size(7), 1);
    }

    private static void noGate() {
        NarrowRings x = Check.city("rings 5,5");
        CHECK.due("no gate", x, x.breach(1, 1), -1, 6);
        CHECK.due("a number goes ahead", x, x.breach(0, 1), -1, 2);
        CHECK.due("saves", x, x.saves(0, 1, 1), -10000, 1);
    }

    private static void rams() {
        NarrowRings x = Check.city("rings 20,14,9;gate g in 0 at 3 wide 10 high 12 hands 4 toll 2;"
            + "gate h in 1 at 6 wide 8 high 9 hands 2 toll 5");
        CHECK.due("all through, without carts", x, x.ram(5, 8, 9), 2, 0);
        CHECK.due("too high for h", x.ram(5, 8, 10), 1);
        CHECK.due("too wide for h", x.ram(5, 9, 9), 1);
        CHECK.due("too high for g", x.ram(5, 8, 13), 0);
        CHECK.due("just turns at h", x.ram(9, 8, 9), 2);
        CHECK.due("doesn't turn at h", x.ram(10, 8, 9), 1);
        CHECK.due("lies alone, on no side", x.ram(1, 11, 1), 0);
        CHECK.due("as wide as ring 0", x.ram(1, 20, 1), 0);
        CHECK.due("wider than ring 0", x, x.ram(1, 21, 1), -2, 0);
        int[][] wrong = {{0, 1, 1}, {100, 1, 1}, {1, 0, 1}, {1, 100, 1}, {1, 1, 0}, {1, 1, 100}};
        for (int[] a : wrong) {
            CHECK.due("a number", x, x.ram(a[0], a[1], a[2]), -1, 2);
            CHECK.due("a number", x, x.ramBy(0, a[0], a[1], a[2], 5), -1, 2);
        }
        CHECK.due("breach of h", x, x.ramBy(1, 5, 9, 9, 9), 2, 0);
        CHECK.due("breach too narrow", x.ramBy(1, 5, 9, 9, 8), 1);
        CHECK.due("breach that isn't more", x.ramBy(1, 5, 8, 9, 1), 2);
        CHECK.due("no higher by a breach", x.ramBy(1, 5, 8, 10, 99), 1);
        CHECK.due("turns by a breach", x.ramBy(1, 10, 8, 9, 9), 2);
        CHECK.due("wider than ring 0", x.ramBy(1, 1, 21, 1, 99), -2);
        CHECK.due("new width 0", x, x.ramBy(1, 1, 1, 1, 0), -1, 2);
        CHECK.due("new width 100", x, x.ramBy(1, 1, 1, 1, 100), -1, 2);
        CHECK.due("no gate", x, x.ramBy(2, 1, 1, 1, 1), -1, 1);
        CHECK.due("no gate below", x, x.ramBy(-1, 0, 0, 0, 0), -1, 1);
        CHECK.due("nothing is changed", x.gate(1, 2), 8);
        CHECK.due("close", x.close(0), true);
        CHECK.due("a closed gate", x.ram(1, 1, 1), 0);
        CHECK.due("a closed gate breached", x.ramBy(0, 1, 1, 1, 99), 0);
    }

    private static void stores() {
        NarrowRings x = Check.city("rings 9,9,9,9;store 3 bread 20 mouths 0;store 0 bread 9 mouths 6;"
            + "store 2 bread 0 mouths 4");
        CHECK.due("hold 0", x, x.hold(0), 2, 0);
        CHECK.due("hold 1", x, x.hold(1), 2, 0);
        CHECK.due("hold 3", x, x.hold(3), 2, 0);
        CHECK.due("hold 4", x, x.hold(4), -1, 1);
        CHECK.due("hold below", x, x.hold(-1), -1, 1);
        CHECK.due("stand, the innermost", x, x.stand(), 3, 0);
        NarrowRings y = Check.city("rings 9,9,9;store 0 bread 999 mouths 1;store 1 bread 999 mouths 0");
        CHECK.due("more than 999", y.hold(0), 1998);
        CHECK.due("none within", y.hold(2), 0);
        CHECK.due("stand", y.stand(), 0);
        NarrowRings z = Check.city("rings 9,9,9;store 0 bread 10 mouths 0");
        CHECK.due("without mouths", z.hold(2), 999);
        CHECK.due("stand without mouths", z.stand(), 2);
    }

    private static void thefts() {
        NarrowRings x = Check.city("rings 20,14,9;gate g in 0 at 3 wide 10 high 12 hands 4 toll 2;"
            + "gate h in 1 at 6 wide 8 high 9 hands 2 toll 5;gate k in 0 at 9 wide 13 high 6 hands 3 toll 0;"
            + "good box long 8 wide 4 high 6 weighs 10 tilts;good bell long 9 wide 9 high 12 weighs 20");
        CHECK.due("too few hours", x, x.theft(0, 1, 6, 5, false), 0, 0);
        CHECK.due("just by g", x, x.theft(0, 1, 6, 6, false), 1, 0);
        CHECK.due("by k too", x.theft(0, 1, 6, 7, false), 5);
        CHECK.due("in and out of h, not yet", x.theft(0, 1, 6, 15, false), 5);
        CHECK.due("in and out of h", x.theft(0, 1, 6, 16, false), 7);
        CHECK.due("from within, by h first", x.theft(0, 2, 6, 10, false), 0);
        CHECK.due("from within", x.theft(0, 2, 6, 11, false), 3);
        CHECK.due("in ring 0 already", x.theft(0, 0, 3, 5, false), 0);
        CHECK.due("in ring 0, there and back", x.theft(0, 0, 3, 6, false), 1);
        CHECK.due("in ring 0, not yet in by g and out by k", x.theft(0, 0, 3, 12, false), 1);
        CHECK.due("in ring 0, in by g and out by k", x.theft(0, 0, 3, 13, false), 1 | 4);
        CHECK.due("bell is barred by h", x.theft(1, 2, 6, 99, false), 0);
        CHECK.due("no good", x, x.theft(2, 0, 0, 0, false), -1, 1);
        CHECK.due("no ring", x, x.theft(0, 3, 0, 0, false), -1, 1);
        CHECK.due("no place", x, x.theft(0, 0, 12, 0, false), -1, 1);
        CHECK.due("no place below", x, x.theft(0, 0, -1, 100, true), -1, 1);
        CHECK.due("hours 100", x, x.theft(0, 0, 0, 100, true), -1, 2);
        CHECK.due("hours below", x, x.theft(0, 0, 0, -1, false), -1, 2);
        CHECK.due("it can't be cut", x, x.theft(0, 0, 0, 0, true), -1, 5);
        CHECK.due("no hours", x, x.theft(0, 0, 0, 0, false), 0, 0);
        CHECK.due("close", x.close(0), true);
        CHECK.due("not by a closed gate", x.theft(0, 1, 6, 99, false), 6);
    }

    private static void theftsOfParts() {
        NarrowRings x = Check.city("rings 9,9;gate g in 0 at 0 wide 9 high 9 hands 2 toll 0;"
            + "gate h in 0 at 6 wide 3 high 3 hands 9 toll 0;good p long 8 wide 3 high 3 weighs 9 parts 4;"
            + "good q long 12 wide 3 high 3 weighs 9 parts 4");
        CHECK.due("whole, by either", x.theft(0, 1, 1, 6, false), 3);
        CHECK.due("whole in less", x.theft(0, 1, 1, 5, false), 0);
        CHECK.due("cut, all loads at once", x.theft(0, 1, 1, 3, true), 1);
        CHECK.due("cut, in less", x.theft(0, 1, 1, 2, true), 0);
        CHECK.due("by the narrow gate whole", x.theft(1, 1, 1, 99, false), 1);
        CHECK.due("by the narrow gate cut", x.theft(1, 1, 1, 6, true), 3);
    }
}
