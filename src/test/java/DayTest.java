/** Promises 18 to 28: pass, anew, loads, load, cart, busy, tolls, worked, waited, mark, back. */
public final class DayTest {
    private static final Check CHECK = new Check("DayTest");
    private static final int NOT_BEGUN = 0;
    private static final int MUST_GO_ON = 1;
    private static final int ON_CART = 2;
    private static final int WAITS = 3;
    private static final int LOADED_OVER = 4;
    private static final int THERE = 5;

    public static void main(String[] args) {
        hourByHour();
        cutLoads();
        whoComesFirst();
        whichCart();
        outwardByTwoGates();
        limits();
        marks();
        CHECK.end();
    }

    private static NarrowRings city() {
        return Check.city("rings 9,9;gate g in 0 at 2 wide 9 high 9 hands 2 toll 3;cart a in 0 bears 9;"
            + "cart b in 1 bears 9;good p long 1 wide 1 high 1 weighs 3;order x of p from 0,0 to 1,2 hour 0;"
            + "order y of p from 0,2 to 1,4 hour 0;order z of p from 0,1 to 0,1 hour 5");
    }

    /** A load's ring, place, how it is, hours left, hours waited, cart and hour there. */
    private static void load(NarrowRings x, int l, int... want) {
        for (int i = 0; i < want.length; i++) {
            CHECK.due("hour " + x.size(5) + " load(" + l + ", " + (i + 1) + ")", x.load(l, i + 1), want[i]);
        }
    }

    private static void gate(NarrowRings x, int g, int busy, int tolls, int worked) {
        CHECK.due("hour " + x.size(5) + " busy", x, x.busy(g), busy, 0);
        CHECK.due("hour " + x.size(5) + " tolls", x, x.tolls(g), tolls, 0);
        CHECK.due("hour " + x.size(5) + " worked", x, x.worked(g), worked, 0);
    }

    private static void hourByHour() {
        NarrowRings x = city();
        CHECK.due("loads", x, x.loads(), 3, 0);
        for (int l = 0; l < 3; l++) {
            CHECK.due("order of load " + l, x, x.load(l, 0), l, 0);
        }
        load(x, 0, 0, 0, NOT_BEGUN, 0, 0, -2, -2);
        CHECK.due("pass", x, x.pass(1), 1, 0);
        load(x, 0, 0, 0, ON_CART, 2, 0, 0, -2);
        load(x, 1, 0, 2, WAITS, 0, 1, -2, -2);
        load(x, 2, 0, 1, NOT_BEGUN, 0, 0, -2, -2);
        CHECK.due("cart", x, x.cart(0), 0, 0);
        CHECK.due("cart", x, x.cart(1), -2, 0);
        gate(x, 0, -2, 0, 0);
        CHECK.due("pass", x.pass(1), 2);
        load(x, 0, 0, 0, ON_CART, 1, 0, 0, -2);
        load(x, 1, 0, 2, LOADED_OVER, 2, 1, -2, -2);
        gate(x, 0, 1, 3, 4);
        CHECK.due("pass", x.pass(1), 3);
        load(x, 0, 0, 2, WAITS, 0, 1, -2, -2);
        load(x, 1, 0, 2, LOADED_OVER, 1, 1, -2, -2);
        CHECK.due("cart is free", x.cart(0), -2);
        gate(x, 0, 1, 3, 4);
        CHECK.due("pass", x.pass(1), 4);
        load(x, 0, 0, 2, LOADED_OVER, 2, 1, -2, -2);
        load(x, 1, 1, 2, ON_CART, 2, 1, 1, -2);
        gate(x, 0, 0, 6, 8);
        CHECK.due("waited", x, x.waited(), 2, 0);
        CHECK.due("pass", x.pass(2), 6);
        load(x, 0, 1, 2, THERE, 0, 1, -2, 5);
        load(x, 1, 1, 4, THERE, 0, 1, -2, 5);
        load(x, 2, 0, 1, THERE, 0, 0, -2, 5);
        gate(x, 0, -2, 6, 8);
        CHECK.due("anew", x, x.anew(), true, 0);
        CHECK.due("the hour anew", x.size(5), 0);
        load(x, 1, 0, 2, NOT_BEGUN, 0, 0, -2, -2);
        gate(x, 0, -2, 0, 0);
        CHECK.due("waited anew", x.waited(), 0);
    }

    private static void cutLoads() {
        NarrowRings x = Check.city("rings 9,9;gate g in 0 at 0 wide 9 high 9 hands 1 toll 1;cart a in 0 bears 9;"
            + "cart b in 1 bears 2;good p long 9 wide 1 high 1 weighs 5 parts 3;good q long 1 wide 1 high 1 weighs 9;"
            + "order n of q from 1,0 to 1,1 hour 0;order x of p from 0,0 to 1,0 hour 1;order y of q from 0,0 to 0,3 hour 0");
        CHECK.due("an order without a way is no load", x.loads(), 4);
        int[] orders = {1, 1, 1, 2};
        for (int l = 0; l < 4; l++) {
            CHECK.due("order of load " + l, x.load(l, 0), orders[l]);
        }
        CHECK.due("pass", x.pass(2), 2);
        load(x, 3, 0, 0, ON_CART, 2, 0, 0, -2);
        for (int l = 0; l < 3; l++) {
            load(x, l, 0, 0, WAITS, 0, 1, -2, -2);
        }
        CHECK.due("pass", x.pass(1), 3);
        load(x, 0, 0, 0, LOADED_OVER, 2, 1, -2, -2);
        load(x, 1, 0, 0, WAITS, 0, 2, -2, -2);
        CHECK.due("pass", x.pass(2), 5);
        load(x, 0, 1, 0, THERE, 0, 1, -2, 4);
        load(x, 1, 0, 0, LOADED_OVER, 2, 3, -2, -2);
        CHECK.due("pass", x.pass(10), 15);
        load(x, 1, 1, 0, THERE, 0, 3, -2, 6);
        load(x, 2, 1, 0, THERE, 0, 5, -2, 8);
        gate(x, 0, -2, 3, 6);
        CHECK.due("waited", x.waited(), 9);
    }

    private static void whoComesFirst() {
        // Load 1 comes to the gate in hour 1 on a cart, load 0 in hour 2 on the other: first come goes first.
        NarrowRings x = Check.city("rings 9,9;gate g in 0 at 3 wide 9 high 9 hands 1 toll 0;cart a in 0 bears 9;"
            + "cart b in 0 bears 9;cart c in 1 bears 9;good p long 1 wide 1 high 1 weighs 4;"
            + "order x of p from 0,1 to 1,3 hour 0;order y of p from 0,2 to 1,3 hour 0;order z of p from 0,3 to 1,3 hour 0;"
            + "order w of p from 0,3 to 1,3 hour 1");
        CHECK.due("pass", x.pass(2), 2);
        CHECK.due("the one that was there", x.busy(0), 2);
        CHECK.due("load 1 came", x.load(1, 3), WAITS);
        CHECK.due("load 3 came in the same hour", x.load(3, 3), WAITS);
        CHECK.due("load 0 did not", x.load(0, 3), ON_CART);
        CHECK.due("pass", x.pass(4), 6);
        CHECK.due("load 2 is there", x.load(2, 7), 5);
        CHECK.due("of one hour the least number", x.busy(0), 1);
        CHECK.due("pass", x.pass(4), 10);
        CHECK.due("then the other of that hour", x.busy(0), 3);
        CHECK.due("pass", x.pass(4), 14);
        CHECK.due("then the last", x.busy(0), 0);
        CHECK.due("its hours waited", x.load(0, 5), 11);
    }

    private static void whichCart() {
        NarrowRings x = Check.city("rings 9,9;cart a in 1 bears 9;cart b in 0 bears 2;cart c in 0 bears 9;"
            + "good p long 1 wide 1 high 1 weighs 3;good q long 1 wide 1 high 1 weighs 1;"
            + "order x of p from 0,11 to 0,1 hour 0;order y of q from 0,0 to 0,1 hour 0;order z of q from 0,0 to 0,6 hour 0");
        CHECK.due("pass", x.pass(1), 1);
        CHECK.due("the first of its ring that bears it", x.load(0, 6), 2);
        CHECK.due("the nearer way round", x.load(0, 4), 2);
        CHECK.due("the first free", x.load(1, 6), 1);
        load(x, 2, 0, 0, MUST_GO_ON, 0, 1, -2, -2);
        CHECK.due("none on the other ring's", x.cart(0), -2);
        CHECK.due("pass", x.pass(1), 2);
        CHECK.due("there", x.load(1, 7), 1);
        load(x, 2, 0, 0, ON_CART, 6, 1, 1, -2);
        CHECK.due("whose cart", x.cart(1), 2);
        CHECK.due("no cart", x, x.cart(3), -1, 1);
        CHECK.due("no cart below", x, x.cart(-1), -1, 1);
    }

    private static void outwardByTwoGates() {
        NarrowRings x = Check.city("rings 9,9,9;gate g in 0 at 4 wide 9 high 9 hands 1 toll 2;"
            + "gate h in 1 at 4 wide 9 high 9 hands 1 toll 7;cart a in 0 bears 9;cart b in 1 bears 9;cart c in 2 bears 9;"
            + "good p long 1 wide 1 high 1 weighs 1;order x of p from 2,4 to 0,5 hour 1");
        CHECK.due("pass", x.pass(2), 2);
        load(x, 0, 2, 4, WAITS, 0, 1, -2, -2);
        CHECK.due("pass", x.pass(1), 3);
        load(x, 0, 2, 4, LOADED_OVER, 1, 1, -2, -2);
        CHECK.due("pass", x.pass(1), 4);
        // Beyond, it comes to the gate at its place behind that gate's turn.
        load(x, 0, 1, 4, WAITS, 0, 2, -2, -2);
        CHECK.due("pass", x.pass(2), 6);
        load(x, 0, 0, 4, ON_CART, 1, 2, 0, -2);
        CHECK.due("pass", x.pass(1), 7);
        load(x, 0, 0, 5, THERE, 0, 2, -2, 6);
        CHECK.due("tolls outside", x.tolls(0), 2);
        CHECK.due("tolls inside", x.tolls(1), 7);
    }

    private static void limits() {
        NarrowRings x = city();
        CHECK.due("pass 0", x, x.pass(0), -1, 2);
        CHECK.due("pass 61", x, x.pass(61), -1, 2);
        CHECK.due("pass less", x, x.pass(Integer.MIN_VALUE), -1, 2);
        CHECK.due("pass 60", x, x.pass(60), 60, 0);
        CHECK.due("pass 59", x, x.pass(59), 119, 0);
        CHECK.due("pass 2", x, x.pass(2), -1, 3);
        CHECK.due("pass 1", x, x.pass(1), 120, 0);
        CHECK.due("pass 1 more", x, x.pass(1), -1, 3);
        CHECK.due("a number goes ahead of no room", x, x.pass(99), -1, 2);
        CHECK.due("no load", x, x.load(3, 0), -1, 1);
        CHECK.due("no load below", x, x.load(-1, 0), -1, 1);
        CHECK.due("nothing such of a load", x, x.load(0, 8), -1, 1);
        CHECK.due("nothing such below", x, x.load(0, -1), -1, 1);
        CHECK.due("no gate busy", x, x.busy(1), -1, 1);
        CHECK.due("no gate's tolls", x, x.tolls(-1), -1, 1);
        CHECK.due("no gate's work", x, x.worked(1), -1, 1);
    }

    private static void marks() {
        NarrowRings x = city();
        CHECK.due("no mark", x, x.back(0), false, 1);
        CHECK.due("pass", x.pass(2), 2);
        CHECK.due("mark 0", x, x.mark(), 0, 0);
        CHECK.due("pass", x.pass(2), 4);
        CHECK.due("mark 1", x, x.mark(), 1, 0);
        CHECK.due("pass", x.pass(9), 13);
        CHECK.due("mark 2", x, x.mark(), 2, 0);
        CHECK.due("mark 3", x, x.mark(), -1, 3);
        CHECK.due("back to 1", x, x.back(1), true, 0);
        CHECK.due("hour", x.size(5), 4);
        load(x, 0, 0, 2, LOADED_OVER, 2, 1, -2, -2);
        load(x, 1, 1, 2, ON_CART, 2, 1, 1, -2);
        gate(x, 0, 0, 6, 8);
        CHECK.due("cart", x.cart(1), 1);
        CHECK.due("pass", x.pass(2), 6);
        load(x, 0, 1, 2, THERE, 0, 1, -2, 5);
        CHECK.due("back to 0", x.back(0), true);
        load(x, 0, 0, 0, ON_CART, 1, 0, 0, -2);
        gate(x, 0, 1, 3, 4);
        CHECK.due("anew", x.anew(), true);
        CHECK.due("marks stay", x.size(6), 3);
        CHECK.due("a mark isn't spoilt by what came behind it", x.back(1), true);
        gate(x, 0, 0, 6, 8);
        CHECK.due("no mark 3", x, x.back(3), false, 1);
        CHECK.due("no mark below", x, x.back(-1), false, 1);
        CHECK.due("an act", x.widen(0, 10, 10), true);
        CHECK.due("no marks", x, x.back(0), false, 1);
        CHECK.due("the day is anew", x.size(5), 0);
        CHECK.due("mark", x.mark(), 0);
        CHECK.due("an act refused", x.widen(0, 10, 10), false);
        CHECK.due("marks stay then", x.size(6), 1);
        CHECK.due("undo", x.undo(), true);
        CHECK.due("no marks by undo", x.size(6), 0);
    }
}
