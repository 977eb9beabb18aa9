/** The edges of Terms III and of promises 18 to 28: pass, anew, loads, load, cart, busy, tolls, worked, waited, mark, back. */
public final class EdgeDayTest {
    private static final Check CHECK = new Check("EdgeDayTest");
    private static final int LOWEST = Integer.MIN_VALUE;
    private static final int HIGHEST = Integer.MAX_VALUE;
    private static final int NOT_BEGUN = 0;
    private static final int MUST_GO_ON = 1;
    private static final int ON_CART = 2;
    private static final int WAITS = 3;
    private static final int LOADED_OVER = 4;
    private static final int THERE = 5;
    private static final String GOOD = ";good p long 1 wide 1 high 1 weighs 3";

    public static void main(String[] args) {
        passArguments();
        passRefusedPassesNothing();
        hundredTwentyHours();
        anew();
        loadCounts();
        arguments();
        oneLoadHourByHour();
        hoursOfOrders();
        asManyHoursAsItIsFar();
        gateServes();
        comesOnFootOrOnACart();
        comesFirst();
        bothWaysAtOneGate();
        beyondAGate();
        cartsOfTheRing();
        tollsAndWork();
        cutLoads();
        fewerLoadsThanBefore();
        asManyAsMayBe();
        marksUpToThree();
        marksKeepTheDay();
        marksGone();
        CHECK.end();
    }

    private static String gate(String name, int ring, int place, int hands, int toll) {
        return ";gate " + name + " in " + ring + " at " + place + " wide 9 high 9 hands " + hands + " toll " + toll;
    }

    private static String cart(String name, int ring) {
        return ";cart " + name + " in " + ring + " bears 99";
    }

    private static String order(String name, int ring, int place, int toRing, int toPlace, int hour) {
        return ";order " + name + " of p from " + ring + "," + place + " to " + toRing + "," + toPlace + " hour " + hour;
    }

    /** A load's order, ring, place, how it is, hours left, hours waited, cart and hour there. */
    private static void load(NarrowRings x, int l, int... want) {
        for (int what = 0; what < want.length; what++) {
            CHECK.due("HOUR " + x.size(5) + ", load(" + l + ", " + what + ")", x, x.load(l, what), want[what], 0);
        }
    }

    private static void how(NarrowRings x, int l, int state, int waited) {
        CHECK.due("HOUR " + x.size(5) + ", how load " + l + " is", x.load(l, 3), state);
        CHECK.due("HOUR " + x.size(5) + ", hours load " + l + " WAITED", x.load(l, 5), waited);
    }

    private static void gate(NarrowRings x, int g, int busy, int tolls, int worked) {
        CHECK.due("HOUR " + x.size(5) + ", busy(" + g + ")", x, x.busy(g), busy, 0);
        CHECK.due("HOUR " + x.size(5) + ", tolls(" + g + ")", x, x.tolls(g), tolls, 0);
        CHECK.due("HOUR " + x.size(5) + ", worked(" + g + ")", x, x.worked(g), worked, 0);
    }

    private static void pass(NarrowRings x, int n) {
        int hour = x.size(5);
        CHECK.due("HOUR " + hour + ", pass(" + n + ")", x, x.pass(n), hour + n, 0);
        CHECK.due("the HOUR then", x.size(5), hour + n);
    }

    // -- promise 18

    private static void passArguments() {
        CHECK.promise(18, "pass");
        NarrowRings none = new NarrowRings();
        CHECK.due("no CITY", none, none.pass(1), -1, 1);
        CHECK.due("no CITY ahead of a number", none, none.pass(0), -1, 1);
        CHECK.due("no CITY ahead of a number", none, none.pass(61), -1, 1);
        NarrowRings x = Check.city("rings 9,9");
        for (int n : new int[] {0, -1, 61, 120, 121, LOWEST, HIGHEST}) {
            CHECK.due("pass(" + n + ")", x, x.pass(n), -1, 2);
            CHECK.due("the HOUR stays", x.size(5), 0);
        }
        pass(x, 1);
        pass(x, 59);
        pass(x, 1);
        CHECK.due("121 in all", x, x.pass(60), -1, 3);
        CHECK.due("a number ahead of 3", x, x.pass(61), -1, 2);
        CHECK.due("a number ahead of 3", x, x.pass(0), -1, 2);
        CHECK.due("the HOUR stays", x.size(5), 61);
        pass(x, 59);
        CHECK.due("121 in all", x, x.pass(1), -1, 3);
        CHECK.due("180 in all", x, x.pass(60), -1, 3);
        CHECK.due("a number ahead of 3", x, x.pass(61), -1, 2);
        CHECK.due("120 HOURS", x.size(5), 120);
        NarrowRings y = Check.city("rings 9,9");
        pass(y, 60);
        pass(y, 60);
        CHECK.due("121 in all", y, y.pass(1), -1, 3);
    }

    private static void passRefusedPassesNothing() {
        CHECK.promise(18, "pass, refused");
        NarrowRings x = Check.city("rings 9,9" + cart("a", 0) + GOOD + order("o", 0, 0, 0, 6, 0));
        pass(x, 1);
        for (int n : new int[] {0, 61, -5}) {
            CHECK.due("pass(" + n + ")", x, x.pass(n), -1, 2);
            load(x, 0, 0, 0, 0, ON_CART, 6, 0, 0, -2);
        }
        NarrowRings y = Check.city("rings 9,9" + cart("a", 0) + GOOD + order("o", 0, 0, 0, 6, 23));
        pass(y, 23);
        load(y, 0, 0, 0, 0, NOT_BEGUN, 0, 0, -2, -2);
        pass(y, 60);
        load(y, 0, 0, 0, 6, THERE, 0, 0, -2, 29);
        CHECK.due("no part of 38", y, y.pass(38), -1, 3);
        CHECK.due("the HOUR stays", y.size(5), 83);
        pass(y, 37);
    }

    /** By one hand 99 hours: the second load waits for the first, and is not beyond when the DAY ends. */
    private static void hundredTwentyHours() {
        CHECK.promise(18, "pass, a DAY has 120 HOURS");
        NarrowRings x = Check.city("rings 9,9" + gate("g", 0, 0, 1, 99) + cart("a", 0) + cart("b", 1)
            + GOOD.replace("weighs 3", "weighs 99") + order("oa", 0, 0, 1, 0, 0) + order("ob", 0, 0, 1, 0, 0));
        pass(x, 60);
        load(x, 0, 0, 0, 0, LOADED_OVER, 41, 1, -2, -2);
        load(x, 1, 1, 0, 0, WAITS, 0, 60, -2, -2);
        gate(x, 0, 0, 99, 99);
        pass(x, 40);
        load(x, 0, 0, 0, 0, LOADED_OVER, 1, 1, -2, -2);
        load(x, 1, 1, 0, 0, WAITS, 0, 100, -2, -2);
        pass(x, 1);
        load(x, 0, 0, 1, 0, THERE, 0, 1, -2, 100);
        load(x, 1, 1, 0, 0, LOADED_OVER, 99, 100, -2, -2);
        gate(x, 0, 1, 198, 198);
        pass(x, 19);
        load(x, 1, 1, 0, 0, LOADED_OVER, 80, 100, -2, -2);
        CHECK.due("waited", x, x.waited(), 101, 0);
        CHECK.due("no HOUR more", x, x.pass(1), -1, 3);
        load(x, 1, 1, 0, 0, LOADED_OVER, 80, 100, -2, -2);
    }

    // -- promises 19 to 25, what they are told

    private static void anew() {
        CHECK.promise(19, "anew");
        NarrowRings none = new NarrowRings();
        CHECK.due("no CITY", none, none.anew(), false, 1);
        NarrowRings x = Check.city("rings 9,9" + gate("g", 0, 2, 2, 3) + cart("a", 0) + cart("b", 1) + GOOD
            + order("oa", 0, 2, 1, 4, 0) + order("ob", 0, 0, 0, 6, 0));
        CHECK.due("at HOUR 0", x, x.anew(), true, 0);
        for (int hours : new int[] {2, 60, 1}) {
            pass(x, hours);
            CHECK.due("anew", x, x.anew(), true, 0);
            CHECK.due("the HOUR", x.size(5), 0);
            load(x, 0, 0, 0, 2, NOT_BEGUN, 0, 0, -2, -2);
            load(x, 1, 1, 0, 0, NOT_BEGUN, 0, 0, -2, -2);
            gate(x, 0, -2, 0, 0);
            CHECK.due("cart 0", x, x.cart(0), -2, 0);
            CHECK.due("cart 1", x, x.cart(1), -2, 0);
            CHECK.due("waited", x, x.waited(), 0, 0);
        }
        pass(x, 60);
        pass(x, 60);
        CHECK.due("120 are over", x, x.pass(1), -1, 3);
        CHECK.due("anew", x, x.anew(), true, 0);
        pass(x, 60);
        CHECK.due("no act", x.size(7), 0);
    }

    private static void loadCounts() {
        CHECK.promise(20, "loads");
        NarrowRings none = new NarrowRings();
        CHECK.due("no CITY", none, none.loads(), -1, 1);
        NarrowRings x = Check.city("rings 9,9");
        CHECK.due("no order", x, x.loads(), 0, 0);
        CHECK.promise(21, "load");
        CHECK.due("no load", x, x.load(0, 0), -1, 1);
        CHECK.promise(26, "waited");
        CHECK.due("no load", x, x.waited(), 0, 0);
        CHECK.due("no CITY", none, none.waited(), -1, 1);
        CHECK.promise(20, "loads");
        // Of the orders the first and third have a way; the third is CUT.
        NarrowRings y = Check.city("rings 9,9" + gate("g", 0, 0, 1, 0) + cart("a", 0) + ";cart b in 1 bears 5"
            + ";good p long 1 wide 1 high 1 weighs 3;good q long 1 wide 1 high 1 weighs 9 parts 3;"
            + "good r long 1 wide 1 high 1 weighs 6" + order("oa", 0, 0, 1, 0, 0)
            + order("ob", 0, 0, 1, 0, 0).replace("of p", "of r") + order("oc", 0, 0, 1, 0, 0).replace("of p", "of q")
            + order("od", 0, 0, 0, 0, 0).replace("of p", "of r"));
        CHECK.due("one, none, three, one", y, y.loads(), 5, 0);
        CHECK.promise(21, "load, numbered by LINES");
        int[] orders = {0, 2, 2, 2, 3};
        for (int l = 0; l < 5; l++) {
            CHECK.due("order of load " + l, y, y.load(l, 0), orders[l], 0);
        }
        CHECK.due("no load 5", y, y.load(5, 0), -1, 1);
        CHECK.promise(20, "loads");
        CHECK.due("close", y.close(0), true);
        CHECK.due("those in their ring alone", y, y.loads(), 1, 0);
        CHECK.due("undo", y.undo(), true);
        CHECK.due("all again", y, y.loads(), 5, 0);
    }

    private static void arguments() {
        NarrowRings x = Check.city("rings 9,9,9" + gate("g", 0, 0, 1, 0) + gate("h", 1, 0, 1, 0) + cart("a", 0)
            + cart("b", 1) + cart("c", 2) + GOOD + order("oa", 0, 0, 1, 0, 0) + order("ob", 0, 0, 1, 0, 0));
        for (int bad : new int[] {-1, LOWEST, HIGHEST}) {
            CHECK.promise(21, "load");
            CHECK.due("load " + bad, x, x.load(bad, 0), -1, 1);
            CHECK.due("what " + bad, x, x.load(0, bad), -1, 1);
            CHECK.promise(22, "cart");
            CHECK.due("cart " + bad, x, x.cart(bad), -1, 1);
            CHECK.promise(23, "busy");
            CHECK.due("gate " + bad, x, x.busy(bad), -1, 1);
            CHECK.promise(24, "tolls");
            CHECK.due("gate " + bad, x, x.tolls(bad), -1, 1);
            CHECK.promise(25, "worked");
            CHECK.due("gate " + bad, x, x.worked(bad), -1, 1);
        }
        CHECK.promise(21, "load");
        CHECK.due("load 2", x, x.load(2, 0), -1, 1);
        CHECK.due("load 1", x, x.load(1, 0), 1, 0);
        CHECK.due("what 8", x, x.load(0, 8), -1, 1);
        CHECK.due("what 9", x, x.load(0, 9), -1, 1);
        CHECK.due("what 7", x, x.load(0, 7), -2, 0);
        CHECK.promise(22, "cart");
        CHECK.due("cart 3", x, x.cart(3), -1, 1);
        CHECK.due("cart 2", x, x.cart(2), -2, 0);
        for (int g = 1; g <= 3; g++) {
            CHECK.promise(23, "busy");
            CHECK.due("gate " + g, x, x.busy(g), g == 1 ? -2 : -1, g == 1 ? 0 : 1);
            CHECK.promise(24, "tolls");
            CHECK.due("gate " + g, x, x.tolls(g), g == 1 ? 0 : -1, g == 1 ? 0 : 1);
            CHECK.promise(25, "worked");
            CHECK.due("gate " + g, x, x.worked(g), g == 1 ? 0 : -1, g == 1 ? 0 : 1);
        }
        CHECK.promise(23, "busy, of a gate that is dug");
        CHECK.due("dig", x.dig(0, 0, 9, 9, 1, 0), 2);
        CHECK.due("gate 2 now", x, x.busy(2), -2, 0);
        CHECK.due("tolls of it", x, x.tolls(2), 0, 0);
        CHECK.due("work of it", x, x.worked(2), 0, 0);
        CHECK.due("undo", x.undo(), true);
        CHECK.due("gate 2 no more", x, x.busy(2), -1, 1);
    }

    // -- Terms III, hour by hour

    private static void oneLoadHourByHour() {
        CHECK.promise(21, "load");
        NarrowRings x = Check.city("rings 9,9" + gate("g", 0, 2, 2, 3) + cart("a", 0) + cart("b", 1) + GOOD
            + order("o", 0, 0, 1, 3, 1));
        load(x, 0, 0, 0, 0, NOT_BEGUN, 0, 0, -2, -2);
        pass(x, 1);
        load(x, 0, 0, 0, 0, NOT_BEGUN, 0, 0, -2, -2);
        pass(x, 1);
        load(x, 0, 0, 0, 0, ON_CART, 2, 0, 0, -2);
        CHECK.promise(22, "cart");
        CHECK.due("the load on it", x, x.cart(0), 0, 0);
        CHECK.due("none on it", x, x.cart(1), -2, 0);
        CHECK.promise(21, "load, on a cart the place that it left");
        pass(x, 1);
        load(x, 0, 0, 0, 0, ON_CART, 1, 0, 0, -2);
        gate(x, 0, -2, 0, 0);
        pass(x, 1);
        load(x, 0, 0, 0, 2, LOADED_OVER, 2, 0, -2, -2);
        gate(x, 0, 0, 3, 4);
        CHECK.due("the cart is free", x, x.cart(0), -2, 0);
        pass(x, 1);
        load(x, 0, 0, 0, 2, LOADED_OVER, 1, 0, -2, -2);
        gate(x, 0, 0, 3, 4);
        pass(x, 1);
        load(x, 0, 0, 1, 2, ON_CART, 1, 0, 1, -2);
        gate(x, 0, -2, 3, 4);
        CHECK.due("on the other ring's", x, x.cart(1), 0, 0);
        pass(x, 1);
        load(x, 0, 0, 1, 3, THERE, 0, 0, -2, 6);
        CHECK.due("free too", x, x.cart(1), -2, 0);
        pass(x, 60);
        load(x, 0, 0, 1, 3, THERE, 0, 0, -2, 6);
        CHECK.due("never waited", x, x.waited(), 0, 0);
        CHECK.promise(14, "hoursOf, as the day shows");
        CHECK.due("from HOUR 1 to HOUR 6", x, x.hoursOf(0), 5, 0);
    }

    private static void hoursOfOrders() {
        CHECK.promise(18, "pass, orders of hour t begin");
        NarrowRings x = Check.city("rings 9,9" + cart("a", 0) + GOOD + order("oa", 0, 5, 0, 5, 0)
            + order("ob", 0, 5, 0, 5, 1) + order("oc", 0, 5, 0, 5, 23));
        load(x, 0, 0, 0, 5, NOT_BEGUN, 0, 0, -2, -2);
        pass(x, 1);
        load(x, 0, 0, 0, 5, THERE, 0, 0, -2, 0);
        load(x, 1, 1, 0, 5, NOT_BEGUN, 0, 0, -2, -2);
        pass(x, 1);
        load(x, 1, 1, 0, 5, THERE, 0, 0, -2, 1);
        pass(x, 21);
        load(x, 2, 2, 0, 5, NOT_BEGUN, 0, 0, -2, -2);
        pass(x, 1);
        load(x, 2, 2, 0, 5, THERE, 0, 0, -2, 23);
        CHECK.due("no hour waited", x, x.waited(), 0, 0);
    }

    /** The nearer way round: half round is 6, one more is 5, and from 11 to 0 it is 1. */
    private static void asManyHoursAsItIsFar() {
        CHECK.promise(21, "load, as many hours as it is far");
        int[][] ends = {{0, 0, 0}, {0, 1, 1}, {0, 5, 5}, {0, 6, 6}, {0, 7, 5}, {0, 11, 1}, {11, 0, 1}, {8, 2, 6}};
        StringBuilder text = new StringBuilder("rings 9,9").append(GOOD);
        for (int i = 0; i < 8; i++) {
            text.append(cart("k" + (char) ('a' + i), 0)).append(order("o" + (char) ('a' + i), 0, ends[i][0], 0, ends[i][1], 2));
        }
        NarrowRings x = Check.city(text.toString());
        pass(x, 3);
        for (int i = 0; i < 8; i++) {
            int far = ends[i][2];
            load(x, i, i, 0, ends[i][0], far == 0 ? THERE : ON_CART, far, 0, far == 0 ? -2 : i - 1, far == 0 ? 2 : -2);
        }
        pass(x, 6);
        for (int i = 0; i < 8; i++) {
            load(x, i, i, 0, ends[i][1], THERE, 0, 0, -2, 2 + ends[i][2]);
        }
    }

    /** Three at the gate's place: the gate takes one an hour, from the hour behind the one they come in. */
    private static void gateServes() {
        CHECK.promise(23, "busy, the gate is free as soon as one is beyond");
        NarrowRings x = Check.city("rings 9,9" + gate("g", 0, 4, 3, 7) + cart("a", 0) + cart("b", 1) + GOOD
            + order("oa", 0, 4, 1, 4, 0) + order("ob", 0, 4, 1, 4, 0) + order("oc", 0, 4, 1, 4, 0));
        int[] busy = {-2, 0, 1, 2, -2};
        int[] begun = {0, 1, 2, 3, 3};
        for (int hour = 0; hour < 5; hour++) {
            pass(x, 1);
            gate(x, 0, busy[hour], 7 * begun[hour], 3 * begun[hour]);
        }
        for (int l = 0; l < 3; l++) {
            load(x, l, l, 1, 4, THERE, 0, l + 1, -2, l + 2);
        }
        CHECK.promise(26, "waited");
        CHECK.due("1, 2 and 3", x, x.waited(), 6, 0);
    }

    private static void comesOnFootOrOnACart() {
        CHECK.promise(21, "load, at a gate that is free");
        NarrowRings x = Check.city("rings 9,9" + gate("g", 0, 4, 3, 0) + gate("h", 0, 8, 3, 0) + cart("a", 0) + cart("b", 1)
            + GOOD + order("oa", 0, 3, 1, 4, 0) + order("ob", 0, 8, 1, 8, 1));
        pass(x, 1);
        how(x, 0, ON_CART, 0);
        how(x, 1, NOT_BEGUN, 0);
        pass(x, 1);
        // HOUR 1: the one on a cart comes ahead of the gates' turn, the other behind it.
        how(x, 0, LOADED_OVER, 0);
        how(x, 1, WAITS, 1);
        pass(x, 1);
        load(x, 0, 0, 1, 4, THERE, 0, 0, -2, 2);
        how(x, 1, LOADED_OVER, 1);
        pass(x, 1);
        load(x, 1, 1, 1, 8, THERE, 0, 1, -2, 3);
    }

    /** Load 0 comes in HOUR 2, load 1 in HOUR 1, load 2 in HOUR 2, load 3 keeps the gate until HOUR 4. */
    private static void comesFirst() {
        CHECK.promise(23, "busy, the one that came first, then the least number");
        NarrowRings x = Check.city("rings 9,9" + gate("g", 0, 4, 1, 0) + cart("ka", 0) + cart("kb", 0) + cart("kc", 0)
            + cart("kd", 1) + GOOD + order("oa", 0, 2, 1, 4, 0) + order("ob", 0, 3, 1, 4, 0) + order("oc", 0, 6, 1, 4, 0)
            + order("od", 0, 4, 1, 4, 0));
        pass(x, 3);
        gate(x, 0, 3, 0, 3);
        how(x, 0, WAITS, 1);
        how(x, 1, WAITS, 2);
        how(x, 2, WAITS, 1);
        pass(x, 2);
        gate(x, 0, 1, 0, 6);
        pass(x, 2);
        gate(x, 0, 1, 0, 6);
        pass(x, 1);
        gate(x, 0, 0, 0, 9);
        pass(x, 3);
        gate(x, 0, 2, 0, 12);
        pass(x, 3);
        gate(x, 0, -2, 0, 12);
        int[] there = {10, 7, 13, 4};
        int[] waits = {5, 3, 8, 1};
        for (int l = 0; l < 4; l++) {
            load(x, l, l, 1, 4, THERE, 0, waits[l], -2, there[l]);
        }
    }

    private static void bothWaysAtOneGate() {
        CHECK.promise(23, "busy, either way");
        NarrowRings x = Check.city("rings 9,9" + gate("g", 0, 4, 1, 5) + cart("ka", 0) + cart("kd", 1) + GOOD
            + order("oa", 1, 4, 0, 4, 1) + order("ob", 0, 4, 1, 4, 0));
        pass(x, 2);
        gate(x, 0, 1, 5, 3);
        how(x, 0, WAITS, 1);
        pass(x, 2);
        gate(x, 0, 1, 5, 3);
        pass(x, 1);
        gate(x, 0, 0, 10, 6);
        load(x, 1, 1, 1, 4, THERE, 0, 1, -2, 4);
        load(x, 0, 0, 1, 4, LOADED_OVER, 3, 3, -2, -2);
        pass(x, 3);
        load(x, 0, 0, 0, 4, THERE, 0, 3, -2, 7);
        gate(x, 0, -2, 10, 6);
    }

    private static void beyondAGate() {
        CHECK.promise(21, "load, beyond a gate");
        // Load 0 goes on by the gate at the same place, load 1 on the only cart of ring 1, load 2 waits for that.
        NarrowRings x = Check.city("rings 9,9,9" + gate("g", 0, 4, 9, 0) + gate("h", 1, 4, 9, 0) + gate("i", 0, 6, 9, 0)
            + gate("j", 0, 8, 9, 0) + cart("ka", 0) + cart("kb", 1) + cart("kc", 2) + GOOD + order("oa", 0, 4, 2, 4, 0)
            + order("ob", 0, 6, 1, 7, 0) + order("oc", 0, 8, 1, 9, 0));
        pass(x, 2);
        for (int l = 0; l < 3; l++) {
            how(x, l, LOADED_OVER, 1);
        }
        pass(x, 1);
        load(x, 0, 0, 1, 4, WAITS, 0, 2, -2, -2);
        load(x, 1, 1, 1, 6, ON_CART, 1, 1, 1, -2);
        load(x, 2, 2, 1, 8, MUST_GO_ON, 0, 2, -2, -2);
        pass(x, 1);
        load(x, 0, 0, 1, 4, LOADED_OVER, 1, 2, -2, -2);
        load(x, 1, 1, 1, 7, THERE, 0, 1, -2, 3);
        load(x, 2, 2, 1, 8, ON_CART, 1, 2, 1, -2);
        pass(x, 1);
        load(x, 0, 0, 2, 4, THERE, 0, 2, -2, 4);
        load(x, 2, 2, 1, 9, THERE, 0, 2, -2, 4);
        CHECK.promise(26, "waited");
        CHECK.due("all of them", x, x.waited(), 5, 0);
    }

    private static void cartsOfTheRing() {
        CHECK.promise(22, "cart, the first free one of that ring that bears it");
        NarrowRings x = Check.city("rings 9,9;cart ka in 1 bears 99;cart kb in 0 bears 2;cart kc in 0 bears 3;"
            + "cart kd in 0 bears 99" + GOOD + order("oa", 0, 0, 0, 1, 0) + order("ob", 0, 0, 0, 1, 0)
            + order("oc", 0, 0, 0, 1, 0) + order("od", 1, 0, 1, 1, 0));
        pass(x, 1);
        int[] on = {3, -2, 0, 1};
        for (int c = 0; c < 4; c++) {
            CHECK.due("cart(" + c + ")", x, x.cart(c), on[c], 0);
        }
        load(x, 2, 2, 0, 0, MUST_GO_ON, 0, 1, -2, -2);
        pass(x, 1);
        // Both are free again in HOUR 1, the first of them is taken in it.
        load(x, 0, 0, 0, 1, THERE, 0, 0, -2, 1);
        load(x, 2, 2, 0, 0, ON_CART, 1, 1, 2, -2);
        CHECK.due("cart(2)", x, x.cart(2), 2, 0);
        CHECK.due("cart(3)", x, x.cart(3), -2, 0);
    }

    private static void tollsAndWork() {
        CHECK.promise(24, "tolls, worked: as it begins");
        NarrowRings x = Check.city("rings 9,9" + gate("g", 0, 4, 9, 0) + gate("h", 0, 5, 4, 99) + cart("ka", 0) + cart("kb", 1)
            + GOOD.replace("weighs 3", "weighs 9") + order("oa", 0, 4, 1, 4, 0) + order("ob", 0, 4, 1, 4, 0));
        gate(x, 0, -2, 0, 0);
        pass(x, 1);
        gate(x, 0, -2, 0, 0);
        pass(x, 1);
        gate(x, 0, 0, 0, 9);
        pass(x, 60);
        gate(x, 0, -2, 0, 18);
        gate(x, 1, -2, 0, 0);
        CHECK.due("close the first", x.close(0), true);
        gate(x, 0, -2, 0, 0);
        pass(x, 2);
        // 9 by 4 hands: 3 hours, 12 worked.
        gate(x, 1, 0, 99, 12);
        pass(x, 60);
        gate(x, 1, -2, 198, 24);
    }

    /** In parts of 3 hours each, where the whole would be 9: only a part is worked and carried at a time. */
    private static void cutLoads() {
        CHECK.promise(21, "load, CUT: its parts");
        NarrowRings x = Check.city("rings 9,9" + gate("g", 0, 4, 1, 2) + ";cart ka in 0 bears 3;cart kb in 1 bears 3;"
            + "good p long 1 wide 1 high 1 weighs 9 parts 3" + order("o", 0, 3, 1, 5, 0));
        CHECK.due("loads", x, x.loads(), 3, 0);
        pass(x, 1);
        load(x, 0, 0, 0, 3, ON_CART, 1, 0, 0, -2);
        load(x, 1, 0, 0, 3, MUST_GO_ON, 0, 1, -2, -2);
        load(x, 2, 0, 0, 3, MUST_GO_ON, 0, 1, -2, -2);
        pass(x, 1);
        load(x, 0, 0, 0, 4, LOADED_OVER, 3, 0, -2, -2);
        load(x, 1, 0, 0, 3, ON_CART, 1, 1, 0, -2);
        gate(x, 0, 0, 2, 3);
        pass(x, 3);
        load(x, 0, 0, 1, 4, ON_CART, 1, 0, 1, -2);
        load(x, 1, 0, 0, 4, LOADED_OVER, 3, 3, -2, -2);
        load(x, 2, 0, 0, 4, WAITS, 0, 4, -2, -2);
        gate(x, 0, 1, 4, 6);
        pass(x, 6);
        load(x, 0, 0, 1, 5, THERE, 0, 0, -2, 5);
        load(x, 1, 0, 1, 5, THERE, 0, 3, -2, 8);
        load(x, 2, 0, 1, 4, ON_CART, 1, 6, 1, -2);
        gate(x, 0, -2, 6, 9);
        pass(x, 1);
        load(x, 2, 0, 1, 5, THERE, 0, 6, -2, 11);
    }

    /** A load of a DAY before is in no later one that has fewer. */
    private static void fewerLoadsThanBefore() {
        CHECK.promise(20, "loads, fewer than before");
        NarrowRings x = Check.city("rings 9,9" + gate("g", 0, 4, 1, 2) + cart("ka", 0) + cart("kb", 1) + GOOD
            + order("oa", 0, 0, 0, 3, 1) + order("ob", 0, 4, 1, 4, 0) + order("oc", 0, 3, 1, 4, 0));
        pass(x, 3);
        CHECK.due("three", x, x.loads(), 3, 0);
        CHECK.due("they waited", x, x.waited(), 1 + 2, 0);
        CHECK.due("close", x.close(0), true);
        CHECK.due("one", x, x.loads(), 1, 0);
        CHECK.due("no load 1", x, x.load(1, 0), -1, 1);
        CHECK.due("nobody waited", x, x.waited(), 0, 0);
        pass(x, 2);
        load(x, 0, 0, 0, 0, ON_CART, 3, 0, 0, -2);
        CHECK.due("nobody waited", x, x.waited(), 0, 0);
        CHECK.due("nobody on the other cart", x, x.cart(1), -2, 0);
        gate(x, 0, -2, 0, 0);
        pass(x, 60);
        load(x, 0, 0, 0, 3, THERE, 0, 0, -2, 4);
        CHECK.due("nobody waited", x, x.waited(), 0, 0);
        gate(x, 0, -2, 0, 0);
    }

    /** Eight orders of nine parts each, eleven gates, eight carts. */
    private static void asManyAsMayBe() {
        CHECK.promise(20, "loads, as many as may be");
        StringBuilder text = new StringBuilder("rings 9,9;good p long 1 wide 1 high 1 weighs 9 parts 9");
        for (int c = 0; c < 8; c++) {
            text.append(";cart k").append((char) ('a' + c)).append(" in 0 bears 1");
        }
        for (int o = 0; o < 8; o++) {
            text.append(order("o" + (char) ('a' + o), 0, 0, 0, 6, 0));
        }
        NarrowRings x = Check.city(text.toString());
        for (int g = 0; g < 11; g++) {
            CHECK.due("dig", x.dig(0, 0, 9, 9, 1, 0), g);
        }
        CHECK.due("72", x, x.loads(), 72, 0);
        CHECK.due("the last", x, x.load(71, 0), 7, 0);
        CHECK.due("no more", x, x.load(72, 0), -1, 1);
        pass(x, 1);
        for (int c = 0; c < 8; c++) {
            CHECK.due("cart " + c, x, x.cart(c), c, 0);
        }
        CHECK.due("no more", x, x.cart(8), -1, 1);
        CHECK.due("all but eight wait", x, x.waited(), 64, 0);
        CHECK.due("mark", x.mark(), 0);
        pass(x, 60);
        // Eight of them every six hours: the last eight are THERE in HOUR 54.
        load(x, 71, 7, 0, 6, THERE, 0, 48, -2, 54);
        load(x, 63, 7, 0, 6, THERE, 0, 42, -2, 48);
        CHECK.due("6, 12, .. 48, of eight each", x, x.waited(), 8 * 6 * 36, 0);
        CHECK.promise(28, "back, of as many as may be");
        CHECK.due("back", x, x.back(0), true, 0);
        load(x, 71, 7, 0, 0, MUST_GO_ON, 0, 1, -2, -2);
        CHECK.due("cart 7", x, x.cart(7), 7, 0);
        CHECK.due("busy 10", x, x.busy(10), -2, 0);
        CHECK.due("busy 11", x, x.busy(11), -1, 1);
    }

    // -- promises 27 and 28

    private static NarrowRings city() {
        return Check.city("rings 9,9" + gate("g", 0, 2, 2, 3) + cart("a", 0) + cart("b", 1) + GOOD
            + order("ox", 0, 0, 1, 2, 0) + order("oy", 0, 2, 1, 4, 0) + order("oz", 0, 1, 0, 1, 5));
    }

    private static void marksUpToThree() {
        CHECK.promise(27, "mark");
        NarrowRings none = new NarrowRings();
        CHECK.due("no CITY", none, none.mark(), -1, 1);
        CHECK.promise(28, "back");
        CHECK.due("no CITY", none, none.back(0), false, 1);
        NarrowRings x = city();
        for (int marks = 0; marks <= 3; marks++) {
            CHECK.promise(28, "back");
            for (int bad : new int[] {-1, marks, 3, LOWEST, HIGHEST}) {
                CHECK.due(marks + " MARKS, back(" + bad + ")", x, x.back(bad), false, 1);
            }
            for (int good = 0; good < marks; good++) {
                CHECK.due(marks + " MARKS, back(" + good + ")", x, x.back(good), true, 0);
                CHECK.due("all MARKS stay", x.size(6), marks);
            }
            CHECK.promise(27, "mark");
            CHECK.due(marks + " MARKS", x.size(6), marks);
            CHECK.due("one more than " + marks, x, x.mark(), marks < 3 ? marks : -1, marks < 3 ? 0 : 3);
        }
        CHECK.due("a fifth", x, x.mark(), -1, 3);
        CHECK.due("three", x.size(6), 3);
    }

    private static void marksKeepTheDay() {
        CHECK.promise(28, "back, the DAY is as by a MARK");
        NarrowRings x = city();
        CHECK.due("ahead of HOUR 0", x.mark(), 0);
        pass(x, 4);
        CHECK.due("HOUR 4", x.mark(), 1);
        pass(x, 60);
        pass(x, 56);
        CHECK.due("HOUR 120", x.mark(), 2);
        CHECK.due("a fourth is not kept", x, x.mark(), -1, 3);
        int[] hours = {0, 4, 120};
        for (int to : new int[] {1, 0, 2, 2, 1, 0, 2}) {
            CHECK.due("back(" + to + ")", x, x.back(to), true, 0);
            CHECK.due("the HOUR", x.size(5), hours[to]);
            CHECK.due("the MARKS", x.size(6), 3);
            theDay(x, to);
            if (to < 2) {
                pass(x, 3);
            } else {
                CHECK.due("120 are over", x, x.pass(1), -1, 3);
            }
        }
        CHECK.due("anew", x.anew(), true);
        CHECK.due("MARKS stay", x.size(6), 3);
        CHECK.due("back(1)", x, x.back(1), true, 0);
        theDay(x, 1);
    }

    /** The DAY of city() ahead of HOUR 0, of HOUR 4 and behind its last HOUR. */
    private static void theDay(NarrowRings x, int which) {
        int[][][] loads = {
            {{0, 0, 0, NOT_BEGUN, 0, 0, -2, -2}, {1, 0, 2, NOT_BEGUN, 0, 0, -2, -2}, {2, 0, 1, NOT_BEGUN, 0, 0, -2, -2}},
            {{0, 0, 2, LOADED_OVER, 2, 1, -2, -2}, {1, 1, 2, ON_CART, 2, 1, 1, -2}, {2, 0, 1, NOT_BEGUN, 0, 0, -2, -2}},
            {{0, 1, 2, THERE, 0, 1, -2, 5}, {1, 1, 4, THERE, 0, 1, -2, 5}, {2, 0, 1, THERE, 0, 0, -2, 5}}};
        for (int l = 0; l < 3; l++) {
            for (int what = 0; what < 8; what++) {
                CHECK.due("by MARK " + which + ", load(" + l + ", " + what + ")", x.load(l, what), loads[which][l][what]);
            }
        }
        int[][] gates = {{-2, 0, 0}, {0, 6, 8}, {-2, 6, 8}};
        gate(x, 0, gates[which][0], gates[which][1], gates[which][2]);
        CHECK.due("cart 0", x, x.cart(0), -2, 0);
        CHECK.due("cart 1", x, x.cart(1), which == 1 ? 1 : -2, 0);
        CHECK.due("waited", x, x.waited(), which == 0 ? 0 : 2, 0);
    }

    private static void marksGone() {
        CHECK.promise(27, "mark, by ACTS and UNDO all are gone");
        NarrowRings x = city();
        for (int act = 0; act < 4; act++) {
            for (int i = 0; i < 3; i++) {
                CHECK.due("mark " + i, x, x.mark(), i, 0);
            }
            CHECK.due("refused widen", x, x.widen(0, 1, 1), false, 5);
            CHECK.due("refused dig", x, x.dig(1, 0, 9, 9, 1, 0), -1, 1);
            CHECK.due("refused close", x, x.close(7), false, 1);
            CHECK.due("MARKS stay then", x.size(6), 3);
            boolean done = act == 0 ? x.widen(0, 10, 10) : act == 1 ? x.dig(0, 0, 9, 9, 1, 0) == 1
                : act == 2 ? x.close(1) : x.undo();
            CHECK.due("act " + act, done, true);
            CHECK.due("no MARKS", x.size(6), 0);
            CHECK.due("back", x, x.back(0), false, 1);
        }
        NarrowRings y = city();
        CHECK.due("mark", y.mark(), 0);
        CHECK.due("refused undo", y, y.undo(), false, 6);
        CHECK.due("MARKS stay then", y.size(6), 1);
        CHECK.due("a FAULT", Check.tell(y, "rings"), -1);
        CHECK.due("MARKS stay then", y.size(6), 1);
        CHECK.due("back", y, y.back(0), true, 0);
        CHECK.due("a CITY", Check.tell(y, "rings 9,9"), 2);
        CHECK.due("no MARKS", y.size(6), 0);
        CHECK.due("back", y, y.back(0), false, 1);
        CHECK.due("the first MARK again", y, y.mark(), 0, 0);
    }
}
