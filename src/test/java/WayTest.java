import java.util.NoSuchElementException;

/** Promises 11 to 17 and 40: pay, hours, payOf, hoursOf, loadsOf, gateOf, all, led. */
public final class WayTest {
    private static final Check CHECK = new Check("WayTest");
    private static final String CARTS = "cart a in 0 bears 50;cart b in 1 bears 50;cart c in 2 bears 50;";

    public static void main(String[] args) {
        ends();
        leastPayThenHours();
        firstGates();
        wholeOrCut();
        bearing();
        noWay();
        outward();
        CHECK.end();
    }

    private static void ends() {
        NarrowRings x = Check.city("rings 9,9,9;gate g in 0 at 3 wide 9 high 9 hands 4 toll 2;"
            + "gate h in 1 at 10 wide 9 high 9 hands 3 toll 5;" + CARTS + "good p long 1 wide 1 high 1 weighs 10");
        CHECK.due("pay", x, x.pay(0, 0, 0, 2, 9), 2 + 12 + 5 + 12, 0);
        CHECK.due("hours", x, x.hours(0, 0, 0, 2, 9), 3 + 3 + 5 + 4 + 1, 0);
        CHECK.due("pay back", x, x.pay(0, 2, 9, 0, 0), 31, 0);
        CHECK.due("hours back", x, x.hours(0, 2, 9, 0, 0), 16, 0);
        CHECK.due("nowhere to go", x, x.hours(0, 1, 4, 1, 4), 0, 0);
        CHECK.due("pay of it", x, x.pay(0, 1, 4, 1, 4), 0, 0);
        CHECK.due("half round", x, x.hours(0, 1, 0, 1, 6), 6, 0);
        CHECK.due("the nearer way round", x, x.hours(0, 1, 11, 1, 1), 2, 0);
        int[][] wrong = {{1, 0, 0, 0, 0}, {-1, 0, 0, 0, 0}, {0, 3, 0, 0, 0}, {0, -1, 0, 0, 0}, {0, 0, 12, 0, 0},
            {0, 0, -1, 0, 0}, {0, 0, 0, 3, 0}, {0, 0, 0, -1, 0}, {0, 0, 0, 0, 12}, {0, 0, 0, 0, -1}};
        for (int[] a : wrong) {
            CHECK.due("pay of none such", x, x.pay(a[0], a[1], a[2], a[3], a[4]), -1, 1);
            CHECK.due("hours of none such", x, x.hours(a[0], a[1], a[2], a[3], a[4]), -1, 1);
        }
    }

    private static void leastPayThenHours() {
        NarrowRings x = Check.city("rings 9,9;gate g in 0 at 6 wide 9 high 9 hands 1 toll 0;"
            + "gate h in 0 at 0 wide 9 high 9 hands 2 toll 1;gate k in 0 at 5 wide 9 high 9 hands 2 toll 0;"
            + "cart a in 0 bears 50;cart b in 1 bears 50;good p long 1 wide 1 high 1 weighs 4;"
            + "order o of p from 0,0 to 1,0 hour 0;order q of p from 0,0 to 1,8 hour 0");
        CHECK.due("pay ahead of hours", x.payOf(0), 4);
        CHECK.due("hours of least pay", x.hoursOf(0), 5 + 2 + 5);
        CHECK.due("gate", x, x.gateOf(0, 0), 2, 0);
        CHECK.due("the same pay", x.payOf(1), 4);
        CHECK.due("least hours", x.hoursOf(1), 10);
        CHECK.due("its gate", x.gateOf(1, 0), 2);
    }

    private static void firstGates() {
        String gate = " wide 9 high 9 hands 1 toll 0;";
        NarrowRings x = Check.city("rings 9,9,9;gate a in 1 at 6" + gate + "gate b in 0 at 4" + gate
            + "gate c in 1 at 4" + gate + "gate d in 0 at 2" + gate + "gate e in 0 at 2" + gate
            + "cart k in 0 bears 9;cart l in 1 bears 9;cart m in 2 bears 9;good p long 1 wide 1 high 1 weighs 1;"
            + "order o of p from 0,2 to 2,6 hour 0;order q of p from 2,6 to 0,2 hour 0;order r of p from 1,1 to 1,2 hour 0");
        CHECK.due("hours", x.hoursOf(0), 6);
        CHECK.due("first gate of those", x.gateOf(0, 0), 1);
        CHECK.due("then the first", x.gateOf(0, 1), 0);
        CHECK.due("no third", x, x.gateOf(0, 2), -1, 1);
        CHECK.due("none below", x, x.gateOf(0, -1), -1, 1);
        CHECK.due("outward: first gate", x.gateOf(1, 0), 0);
        CHECK.due("outward: then", x.gateOf(1, 1), 1);
        CHECK.due("no gate in a ring", x, x.gateOf(2, 0), -1, 1);
        CHECK.due("no order", x, x.gateOf(3, 0), -1, 1);
        CHECK.due("no order's pay", x, x.payOf(3), -1, 1);
        CHECK.due("no order's hours", x, x.hoursOf(-1), -1, 1);
        CHECK.due("no order's loads", x, x.loadsOf(3), -1, 1);
    }

    private static void wholeOrCut() {
        NarrowRings x = Check.city("rings 9,9;gate g in 0 at 0 wide 3 high 3 hands 3 toll 0;"
            + "gate h in 0 at 0 wide 9 high 9 hands 9 toll 1;cart a in 0 bears 50;cart b in 1 bears 50;"
            + "good even long 4 wide 2 high 2 weighs 6 parts 2;good cut long 20 wide 2 high 2 weighs 9 parts 3;"
            + "good fast long 4 wide 2 high 2 weighs 12 parts 4;"
            + "order o of even from 0,0 to 1,0 hour 0;order p of cut from 0,0 to 1,3 hour 0;"
            + "order q of fast from 0,0 to 1,0 hour 0;order r of cut from 0,0 to 0,3 hour 0");
        CHECK.due("the same pay, cut is faster", x.payOf(0), 6);
        CHECK.due("its hours", x.hoursOf(0), 1);
        CHECK.due("its loads", x, x.loadsOf(0), 2, 0);
        CHECK.due("cut, or it doesn't turn", x.payOf(1), 9);
        CHECK.due("hours of one load", x.hoursOf(1), 1 + 3);
        CHECK.due("three loads", x.loadsOf(1), 3);
        CHECK.due("cut once more", x.payOf(2), 12);
        CHECK.due("in four hours or in one", x.hoursOf(2), 1);
        CHECK.due("in four loads", x.loadsOf(2), 4);
        CHECK.due("whole ahead of cut", x.loadsOf(3), 1);
        CHECK.due("all", x, x.all(), 6 + 9 + 12, 0);
        NarrowRings y = Check.city("rings 9,9;gate g in 0 at 0 wide 9 high 9 hands 9 toll 2;"
            + "cart a in 0 bears 50;cart b in 1 bears 50;good p long 4 wide 2 high 2 weighs 9 parts 2;"
            + "good q long 4 wide 2 high 2 weighs 51 parts 2;"
            + "order o of p from 0,0 to 1,0 hour 0;order x of q from 0,0 to 0,1 hour 0");
        CHECK.due("whole is cheaper", y.payOf(0), 11);
        CHECK.due("one load", y.loadsOf(0), 1);
        CHECK.due("too heavy whole, in its ring", y.payOf(1), 0);
        CHECK.due("so it is cut", y.loadsOf(1), 2);
    }

    private static void bearing() {
        NarrowRings x = Check.city("rings 9,9,9;gate g in 0 at 0 wide 9 high 9 hands 9 toll 2;"
            + "gate h in 1 at 0 wide 9 high 9 hands 9 toll 2;cart a in 0 bears 5;cart c in 2 bears 5;"
            + "good p long 1 wide 1 high 1 weighs 5;good q long 1 wide 1 high 1 weighs 6");
        CHECK.due("a ring between has no cart", x, x.pay(0, 0, 0, 2, 0), -2, 0);
        CHECK.due("its hours", x, x.hours(0, 0, 0, 2, 0), -2, 0);
        CHECK.due("the last ring has no cart", x.pay(0, 0, 0, 1, 0), -2);
        CHECK.due("the first ring has no cart", x.pay(0, 1, 0, 2, 0), -2);
        CHECK.due("no cart bears it in its ring", x.pay(1, 0, 0, 0, 1), -2);
        CHECK.due("one bears it in its ring", x.pay(0, 0, 0, 0, 1), 0);
    }

    private static int led(NarrowRings x, int i) {
        try {
            return x.led(i);
        } catch (NoSuchElementException e) {
            return -9;
        }
    }

    private static void noWay() {
        NarrowRings x = Check.city("rings 9,9;cart a in 0 bears 5;cart b in 1 bears 5;"
            + "good p long 1 wide 1 high 1 weighs 5;order o of p from 0,0 to 1,0 hour 0;"
            + "order q of p from 1,0 to 1,4 hour 0;order r of p from 1,0 to 0,0 hour 0");
        CHECK.due("payOf", x, x.payOf(0), -2, 0);
        CHECK.due("hoursOf", x, x.hoursOf(0), -2, 0);
        CHECK.due("loadsOf", x, x.loadsOf(0), -1, 6);
        CHECK.due("gateOf", x, x.gateOf(0, 0), -1, 6);
        CHECK.due("gateOf far", x, x.gateOf(0, Integer.MAX_VALUE), -1, 6);
        CHECK.due("gateOf below", x, x.gateOf(0, -1), -1, 1);
        CHECK.due("gateOf lowest", x, x.gateOf(0, Integer.MIN_VALUE), -1, 1);
        CHECK.due("gateOf no order", x, x.gateOf(3, 0), -1, 1);
        CHECK.due("all", x, x.all(), 9999 + 9999, 0);
        CHECK.due("led 0", led(x, 0), 0);
        CHECK.due("led 1", led(x, 1), 2);
        CHECK.due("led 2", led(x, 2), -9);
        CHECK.due("led below", led(x, -1), -9);
        CHECK.due("led lowest", led(x, Integer.MIN_VALUE), -9);
        CHECK.due("led of no city", led(new NarrowRings(), 0), -9);
        CHECK.due("dig", x.dig(0, 0, 9, 9, 1, 0), 0);
        CHECK.due("none is led", led(x, 0), -9);
        CHECK.due("all now", x.all(), 10);
        CHECK.due("close", x.close(0), true);
        CHECK.due("led by a closed gate", led(x, 1), 2);
        CHECK.due("all by a closed gate", x.all(), 19998);
    }

    private static void outward() {
        NarrowRings x = Check.city("rings 9,9,9;gate x in 0 at 0 wide 9 high 9 hands 1 toll 9;"
            + "gate y in 1 at 6 wide 9 high 9 hands 1 toll 9;gate z in 1 at 3 wide 9 high 9 hands 1 toll 8;" + CARTS
            + "good p long 1 wide 1 high 1 weighs 1;order o of p from 2,6 to 0,6 hour 0");
        CHECK.due("pay", x.payOf(0), 9 + 10);
        CHECK.due("hours", x.hoursOf(0), 3 + 1 + 3 + 1 + 6);
        CHECK.due("gate 0", x.gateOf(0, 0), 2);
        CHECK.due("gate 1", x.gateOf(0, 1), 0);
    }
}
