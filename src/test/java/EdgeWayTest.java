import java.util.NoSuchElementException;

/** The edges of Terms II that HOURS, PAY, WAYS and BEST name, and of promises 11 to 17 and 40. */
public final class EdgeWayTest {
    private static final Check CHECK = new Check("EdgeWayTest");
    private static final int LOWEST = Integer.MIN_VALUE;
    private static final int HIGHEST = Integer.MAX_VALUE;
    private static final int NO_LED = -9;
    private static final String THREE = "rings 20,20,20;cart ka in 0 bears 99;cart kb in 1 bears 99;cart kc in 2 bears 99";

    public static void main(String[] args) {
        arguments();
        noWay();
        roundTheRing();
        weightByHands();
        eitherWay();
        sixRings();
        elevenGates();
        leastPay();
        leastHours();
        firstGates();
        wholeAheadOfCut();
        cutTimesItsParts();
        ringsThatBear();
        orderArguments();
        ordersWithoutAWay();
        sameRing();
        all();
        led();
        CHECK.end();
    }

    private static String gate(String name, int ring, int place, int wide, int hands, int toll) {
        return ";gate " + name + " in " + ring + " at " + place + " wide " + wide + " high 99 hands " + hands + " toll " + toll;
    }

    private static String order(String name, String good, int ring, int place, int toRing, int toPlace) {
        return ";order " + name + " of " + good + " from " + ring + "," + place + " to " + toRing + "," + toPlace + " hour 0";
    }

    private static void way(String what, NarrowRings x, int order, int pay, int hours, int loads, int... gates) {
        CHECK.due(what + ", payOf", x, x.payOf(order), pay, 0);
        CHECK.due(what + ", hoursOf", x, x.hoursOf(order), hours, 0);
        CHECK.due(what + ", loadsOf", x, x.loadsOf(order), loads, 0);
        for (int i = 0; i < gates.length; i++) {
            CHECK.due(what + ", gateOf " + i, x, x.gateOf(order, i), gates[i], 0);
        }
        CHECK.due(what + ", no more gates", x, x.gateOf(order, gates.length), -1, 1);
    }

    private static int led(NarrowRings x, int i) {
        try {
            return x.led(i);
        } catch (NoSuchElementException e) {
            return NO_LED;
        }
    }

    // -- promises 11 and 12

    private static void arguments() {
        NarrowRings x = Check.city(THREE + gate("g", 0, 0, 20, 1, 0) + ";good a long 1 wide 1 high 1 weighs 1;"
            + "good b long 1 wide 1 high 1 weighs 1");
        int[] last = {1, 2, 11, 1, 11};
        String[] names = {"good", "ring", "place", "toRing", "toPlace"};
        int[] beyond = {2, 3, 12, 3, 12};
        for (int i = 0; i < 5; i++) {
            for (int bad : new int[] {-1, beyond[i], LOWEST, HIGHEST}) {
                int[] a = {0, 0, 0, 0, 0};
                a[i] = bad;
                CHECK.promise(11, "pay");
                CHECK.due(names[i] + " " + bad, x, x.pay(a[0], a[1], a[2], a[3], a[4]), -1, 1);
                CHECK.promise(12, "hours");
                CHECK.due(names[i] + " " + bad, x, x.hours(a[0], a[1], a[2], a[3], a[4]), -1, 1);
            }
            int[] a = {0, 0, 0, 0, 0};
            a[i] = last[i];
            boolean there = i != 1;
            CHECK.promise(11, "pay");
            CHECK.due(names[i] + " " + last[i], x, x.pay(a[0], a[1], a[2], a[3], a[4]), there ? i == 3 ? 1 : 0 : -2, 0);
            CHECK.promise(12, "hours");
            int hours = i == 2 || i == 4 || i == 3 ? 1 : 0;
            CHECK.due(names[i] + " " + last[i], x, x.hours(a[0], a[1], a[2], a[3], a[4]), there ? hours : -2, 0);
        }
    }

    private static void noWay() {
        NarrowRings x = Check.city("rings 9,9;cart ka in 0 bears 9;cart kb in 1 bears 9;good a long 1 wide 1 high 1 weighs 9;"
            + "good b long 1 wide 1 high 1 weighs 10;good c long 1 wide 10 high 10 weighs 1;"
            + "good d long 1 wide 9 high 10 weighs 1;good e long 1 wide 10 high 9 weighs 1;"
            + "good f long 1 wide 10 high 9 weighs 1 tilts holy");
        CHECK.promise(11, "pay, -2 if there is none");
        CHECK.due("no gate", x, x.pay(0, 0, 0, 1, 0), -2, 0);
        CHECK.due("no gate, outward", x, x.pay(0, 1, 0, 0, 0), -2, 0);
        CHECK.due("too heavy where it is", x, x.pay(1, 0, 0, 0, 0), -2, 0);
        CHECK.due("too wide where it is", x, x.pay(2, 1, 5, 1, 5), -2, 0);
        CHECK.due("there is one", x, x.pay(0, 1, 5, 1, 5), 0, 0);
        CHECK.due("it FITS lying", x, x.pay(3, 1, 5, 1, 5), 0, 0);
        CHECK.due("it FITS on its side", x, x.pay(4, 1, 5, 1, 5), 0, 0);
        CHECK.due("it may not be on its side", x, x.pay(5, 1, 5, 1, 5), -2, 0);
        CHECK.promise(12, "hours, -2");
        CHECK.due("no gate", x, x.hours(0, 0, 0, 1, 0), -2, 0);
        CHECK.due("no gate, outward", x, x.hours(0, 1, 0, 0, 0), -2, 0);
        CHECK.due("too heavy where it is", x, x.hours(1, 0, 0, 0, 0), -2, 0);
        CHECK.due("too wide where it is", x, x.hours(2, 1, 5, 1, 5), -2, 0);
        CHECK.due("there is one", x, x.hours(0, 1, 5, 1, 5), 0, 0);
        CHECK.due("dig", x.dig(0, 3, 1, 1, 9, 0), 0);
        CHECK.due("now there is", x, x.hours(0, 0, 0, 1, 0), 3 + 1 + 3, 0);
        CHECK.due("close", x.close(0), true);
        CHECK.due("nothing goes through", x, x.hours(0, 0, 0, 1, 0), -2, 0);
        CHECK.promise(11, "pay, -2 by a closed gate");
        CHECK.due("nothing goes through", x, x.pay(0, 0, 0, 1, 0), -2, 0);
    }

    /** Twelve places round: the way from the last to the first is 1, no way is above 6. */
    private static void roundTheRing() {
        CHECK.promise(12, "hours, 12 round");
        NarrowRings x = Check.city(THREE + ";good a long 1 wide 1 high 1 weighs 1");
        int[] round = {0, 1, 2, 3, 4, 5, 6, 5, 4, 3, 2, 1};
        for (int from = 0; from < 12; from++) {
            for (int to = 0; to < 12; to++) {
                int due = round[to >= from ? to - from : to - from + 12];
                CHECK.due(from + " to " + to, x.hours(0, 1, from, 1, to), due);
            }
        }
        CHECK.due("not refused", x.trouble(), 0);
        CHECK.promise(11, "pay, in a ring nothing");
        CHECK.due("half round", x, x.pay(0, 2, 3, 2, 9), 0, 0);
    }

    private static void weightByHands() {
        for (int hands = 1; hands <= 9; hands++) {
            int[] weights = {1, hands, Math.max(1, hands - 1), hands + 1, 2 * hands, 2 * hands + 1, 98, 99};
            for (int toll : new int[] {0, 99}) {
                StringBuilder text = new StringBuilder(THREE).append(gate("g", 0, 0, 20, hands, toll));
                for (int i = 0; i < weights.length; i++) {
                    text.append(";good g").append((char) ('a' + i)).append(" long 1 wide 1 high 1 weighs ").append(weights[i]);
                }
                NarrowRings x = Check.city(text.toString());
                for (int i = 0; i < weights.length; i++) {
                    int hours = 0;
                    for (int left = weights[i]; left > 0; left -= hands) {
                        hours++;
                    }
                    String what = weights[i] + " by " + hands + " hands, toll " + toll;
                    CHECK.promise(12, "hours, weight by hands, upwards");
                    CHECK.due(what, x, x.hours(i, 0, 0, 1, 0), hours, 0);
                    CHECK.promise(11, "pay, toll and hours times hands");
                    CHECK.due(what, x, x.pay(i, 0, 0, 1, 0), toll + hours * hands, 0);
                }
            }
        }
    }

    private static void eitherWay() {
        NarrowRings x = Check.city(THREE + gate("g", 0, 2, 20, 2, 3) + gate("h", 1, 11, 20, 3, 5)
            + ";good a long 1 wide 1 high 1 weighs 7");
        // 4 hours by 2 hands, 3 hours by 3; 2 places, then 3 round the end, then 1.
        CHECK.promise(11, "pay, either way");
        CHECK.due("inward", x, x.pay(0, 0, 0, 2, 10), 3 + 8 + 5 + 9, 0);
        CHECK.due("outward", x, x.pay(0, 2, 10, 0, 0), 3 + 8 + 5 + 9, 0);
        CHECK.promise(12, "hours, either way");
        CHECK.due("inward", x, x.hours(0, 0, 0, 2, 10), 2 + 4 + 3 + 3 + 1, 0);
        CHECK.due("outward", x, x.hours(0, 2, 10, 0, 0), 2 + 4 + 3 + 3 + 1, 0);
        CHECK.due("from the gate's place to the gate's place", x, x.hours(0, 1, 2, 0, 2), 4, 0);
    }

    /** As dear and as long as a way may be: five gates of 99 hours, half round in each ring. */
    private static void sixRings() {
        StringBuilder text = new StringBuilder("rings 9,9,9,9,9,9");
        for (int ring = 0; ring < 5; ring++) {
            text.append(gate("g" + (char) ('a' + ring), ring, ring % 2 == 0 ? 6 : 0, 9, 1, 99));
        }
        for (int ring = 0; ring < 6; ring++) {
            text.append(";cart k").append((char) ('a' + ring)).append(" in ").append(ring).append(" bears 99");
        }
        text.append(";good a long 1 wide 1 high 1 weighs 99").append(order("oa", "a", 0, 0, 5, 0))
            .append(order("ob", "a", 5, 0, 0, 0));
        NarrowRings x = Check.city(text.toString());
        CHECK.promise(16, "gateOf, payOf, hoursOf: five gates");
        way("inward", x, 0, 5 * 198, 5 * 99 + 6 * 6, 1, 0, 1, 2, 3, 4);
        way("outward", x, 1, 5 * 198, 5 * 99 + 6 * 6, 1, 4, 3, 2, 1, 0);
    }

    /** The last of eleven gates leads on; and the gates of an earlier city lead nowhere. */
    private static void elevenGates() {
        CHECK.promise(16, "gateOf, eleven gates");
        StringBuilder text = new StringBuilder(THREE);
        for (int g = 0; g < 11; g++) {
            text.append(gate("g" + (char) ('a' + g), g < 5 ? 0 : 1, g, 20, 1, g == 4 || g == 10 ? 0 : 1));
        }
        text.append(";good a long 1 wide 1 high 1 weighs 1").append(order("oa", "a", 0, 4, 2, 10))
            .append(order("ob", "a", 2, 10, 0, 4));
        NarrowRings x = Check.city(text.toString());
        way("inward", x, 0, 2, 8, 1, 4, 10);
        way("outward", x, 1, 2, 8, 1, 10, 4);
        CHECK.due("close the last", x.close(10), true);
        way("then by the first", x, 0, 3, 8, 1, 4, 5);
        CHECK.due("another city", Check.tell(x, "rings 9,9"), 2);
        CHECK.due("with an outer gate alone", Check.tell(x, THREE + gate("g", 0, 4, 20, 1, 0)
            + ";good a long 1 wide 1 high 1 weighs 1" + order("oa", "a", 0, 4, 2, 10)), 3);
        CHECK.due("no way", x, x.payOf(0), -2, 0);
        CHECK.due("no gate", x, x.gateOf(0, 0), -1, 6);
    }

    // -- BEST, by promises 13 to 16

    private static void leastPay() {
        CHECK.promise(13, "payOf, least PAY ahead of HOURS");
        String good = ";good a long 1 wide 1 high 1 weighs 1" + order("o", "a", 0, 0, 1, 0);
        way("less by one", Check.city(THREE + gate("g", 0, 0, 20, 1, 1) + gate("h", 0, 6, 20, 1, 0) + good), 0, 1, 13, 1, 1);
        way("the same, less hours", Check.city(THREE + gate("g", 0, 6, 20, 1, 0) + gate("h", 0, 0, 20, 1, 0) + good), 0, 1, 1, 1, 1);
        way("more by one", Check.city(THREE + gate("g", 0, 6, 20, 1, 0) + gate("h", 0, 0, 20, 2, 0) + good), 0, 1, 13, 1, 0);
    }

    private static void leastHours() {
        CHECK.promise(14, "hoursOf, then least HOURS");
        String good = ";good a long 1 wide 1 high 1 weighs 4" + order("o", "a", 0, 0, 1, 0);
        // Each 4 to pay: by 1 hand 4 hours, by 2 hands 2, by 4 hands 1.
        String gates = gate("g", 0, 0, 20, 1, 0) + gate("h", 0, 1, 20, 2, 0) + gate("i", 0, 2, 20, 4, 0);
        way("4 and 4 and 5, the first", Check.city(THREE + gates + good), 0, 4, 4, 1, 0);
        way("less by one", Check.city(THREE + gates.replace("i in 0 at 2", "i in 0 at 1") + good), 0, 4, 3, 1, 2);
        way("none the same", Check.city(THREE + gates.replace("g in 0 at 0", "g in 0 at 11") + good), 0, 4, 4, 1, 1);
    }

    private static void firstGates() {
        CHECK.promise(16, "gateOf, each the first by which it can still be so");
        String good = ";good a long 1 wide 1 high 1 weighs 1" + order("oa", "a", 0, 0, 2, 6) + order("ob", "a", 2, 6, 0, 0);
        // By 1 and 1 or by 11 and 11 it is 8 hours; by 1 and 11 it would be 10.
        NarrowRings x = Check.city(THREE + gate("xa", 0, 1, 20, 1, 0) + gate("xb", 0, 11, 20, 1, 0)
            + gate("xc", 1, 11, 20, 1, 0) + gate("xd", 1, 1, 20, 1, 0) + good);
        way("the first, then what goes with it", x, 0, 2, 8, 1, 0, 3);
        way("outward", x, 1, 2, 8, 1, 2, 1);
        NarrowRings y = Check.city(THREE + gate("xd", 1, 1, 20, 1, 0) + gate("xb", 0, 11, 20, 1, 0)
            + gate("xc", 1, 11, 20, 1, 0) + gate("xa", 0, 1, 20, 1, 0) + good);
        way("told in another order", y, 0, 2, 8, 1, 1, 2);
        way("outward", y, 1, 2, 8, 1, 0, 3);
        NarrowRings z = Check.city(THREE + gate("xa", 0, 5, 20, 1, 0) + gate("xb", 0, 2, 20, 1, 0)
            + gate("xc", 0, 2, 20, 1, 0) + gate("xd", 1, 5, 20, 1, 0) + good);
        way("further on the way, but the first", z, 0, 2, 8, 1, 0, 3);
        way("outward", z, 1, 2, 8, 1, 3, 0);
        CHECK.due("close", z.close(0), true);
        way("the first of two alike", z, 0, 2, 8, 1, 1, 3);
    }

    /** Whole by h (4 to pay, 1 hour), CUT by g, where the whole one doesn't TURN (2 loads of 2, 1 hour). */
    private static void wholeAheadOfCut() {
        CHECK.promise(15, "loadsOf, whole ahead of CUT");
        String good = ";good a long 24 wide 3 high 3 weighs 2 parts 2" + order("o", "a", 0, 0, 1, 0);
        String narrow = gate("g", 0, 0, 3, 1, 1);
        way("the same PAY and HOURS", Check.city(THREE + narrow + gate("h", 0, 0, 10, 2, 2) + good), 0, 4, 1, 1, 1);
        way("the same PAY, CUT in less HOURS", Check.city(THREE + narrow + gate("h", 0, 1, 10, 2, 2) + good), 0, 4, 1, 2, 0);
        way("the same PAY, whole in less HOURS", Check.city(THREE + narrow.replace("at 0", "at 1")
            + gate("h", 0, 0, 10, 2, 2) + good), 0, 4, 1, 1, 1);
        way("CUT for less PAY by one", Check.city(THREE + narrow.replace("at 0", "at 6") + gate("h", 0, 0, 10, 2, 3) + good),
            0, 4, 13, 2, 0);
        way("whole for less PAY by one", Check.city(THREE + narrow + gate("h", 0, 6, 10, 2, 1) + good), 0, 3, 13, 1, 1);
        way("holy is never CUT", Check.city(THREE + narrow + gate("h", 0, 6, 10, 2, 3)
            + good.replace("parts 2", "parts 2 holy")), 0, 5, 13, 1, 1);
        way("without parts", Check.city(THREE + narrow + gate("h", 0, 6, 10, 2, 3) + good.replace(" parts 2", "")), 0, 5, 13, 1, 1);
    }

    private static void cutTimesItsParts() {
        for (int parts = 2; parts <= 9; parts++) {
            // No cart bears it whole; a part weighs 99 by parts, upwards.
            int weight = (99 + parts - 1) / parts;
            NarrowRings x = Check.city(THREE.replace("bears 99", "bears " + weight) + gate("g", 0, 0, 20, 1, 5)
                + ";good a long 1 wide 1 high 1 weighs 99 parts " + parts + order("o", "a", 0, 0, 1, 1));
            CHECK.promise(15, "loadsOf, CUT in " + parts);
            way("in " + parts, x, 0, parts * (5 + weight), weight + 1, parts, 0);
            CHECK.promise(20, "loads");
            CHECK.due("as many loads", x, x.loads(), parts, 0);
            CHECK.promise(11, "pay, CUT times its parts");
            CHECK.due("in " + parts, x, x.pay(0, 0, 0, 1, 1), parts * (5 + weight), 0);
            NarrowRings y = Check.city(THREE.replace("bears 99", "bears " + (weight - 1)) + gate("g", 0, 0, 20, 1, 5)
                + ";good a long 1 wide 1 high 1 weighs 99 parts " + parts + order("o", "a", 0, 0, 1, 1));
            CHECK.due("carts that bear one less", y, y.pay(0, 0, 0, 1, 1), -2, 0);
        }
    }

    private static void ringsThatBear() {
        CHECK.promise(11, "pay, along rings that BEAR it");
        String gates = gate("g", 0, 0, 9, 9, 0) + gate("h", 1, 0, 9, 9, 0);
        String goods = ";good a long 1 wide 1 high 1 weighs 5;good b long 1 wide 1 high 1 weighs 6";
        String[] carts = {"", ";cart ka in 0 bears 5", ";cart kb in 1 bears 5", ";cart kc in 2 bears 5"};
        for (int lacks = 0; lacks <= 3; lacks++) {
            StringBuilder text = new StringBuilder("rings 9,9,9").append(gates);
            for (int ring = 1; ring <= 3; ring++) {
                text.append(ring == lacks ? "" : carts[ring]);
            }
            NarrowRings x = Check.city(text + goods);
            CHECK.due("no cart in " + (lacks - 1), x, x.pay(0, 0, 0, 2, 0), lacks == 0 ? 18 : -2, 0);
            CHECK.due("outward, no cart in " + (lacks - 1), x, x.pay(0, 2, 0, 0, 0), lacks == 0 ? 18 : -2, 0);
            CHECK.due("one heavier", x, x.pay(1, 0, 0, 2, 0), -2, 0);
            for (int ring = 0; ring < 3; ring++) {
                CHECK.due("in ring " + ring, x, x.pay(0, ring, 0, ring, 0), lacks == ring + 1 ? -2 : 0, 0);
            }
        }
    }

    // -- promises 13 to 17 and 40

    private static NarrowRings orders(int count, boolean open) {
        StringBuilder text = new StringBuilder(THREE).append(open ? gate("g", 0, 0, 9, 1, 1) : "")
            .append(";good a long 1 wide 1 high 1 weighs 1");
        for (int i = 0; i < count; i++) {
            text.append(order("o" + (char) ('a' + i), "a", 0, 0, 1, 0));
        }
        return Check.city(text.toString());
    }

    private static void orderArguments() {
        for (int count : new int[] {0, 1, 8}) {
            NarrowRings x = orders(count, true);
            for (int bad : new int[] {-1, count, 8, LOWEST, HIGHEST}) {
                CHECK.promise(13, "payOf");
                CHECK.due("order " + bad, x, x.payOf(bad), -1, 1);
                CHECK.promise(14, "hoursOf");
                CHECK.due("order " + bad, x, x.hoursOf(bad), -1, 1);
                CHECK.promise(15, "loadsOf");
                CHECK.due("order " + bad, x, x.loadsOf(bad), -1, 1);
                CHECK.promise(16, "gateOf");
                CHECK.due("order " + bad, x, x.gateOf(bad, 0), -1, 1);
            }
            if (count > 0) {
                CHECK.promise(13, "payOf to gateOf, the last order");
                way("the last", x, count - 1, 2, 1, 1, 0);
            }
        }
        CHECK.promise(16, "gateOf, i");
        NarrowRings x = orders(1, true);
        for (int bad : new int[] {-1, 1, 5, LOWEST, HIGHEST}) {
            CHECK.due("gateOf(0, " + bad + ")", x, x.gateOf(0, bad), -1, 1);
        }
        CHECK.due("gateOf(0, 0)", x, x.gateOf(0, 0), 0, 0);
    }

    private static void ordersWithoutAWay() {
        NarrowRings x = orders(2, false);
        for (int order = 0; order < 2; order++) {
            CHECK.promise(13, "payOf, -2");
            CHECK.due("without a way", x, x.payOf(order), -2, 0);
            CHECK.promise(14, "hoursOf, -2");
            CHECK.due("without a way", x, x.hoursOf(order), -2, 0);
            CHECK.promise(15, "loadsOf, 6");
            CHECK.due("without a way", x, x.loadsOf(order), -1, 6);
            CHECK.promise(16, "gateOf, 6");
            for (int i : new int[] {0, 1, 4}) {
                CHECK.due("without a way, " + i, x, x.gateOf(order, i), -1, 6);
            }
            CHECK.promise(16, "gateOf, 1 ahead of 6");
            CHECK.due("without a way, -1", x, x.gateOf(order, -1), -1, 1);
        }
        CHECK.due("no order, no i", x, x.gateOf(2, -1), -1, 1);
        CHECK.promise(15, "loadsOf, 1 ahead of 6");
        CHECK.due("no order", x, x.loadsOf(2), -1, 1);
        CHECK.due("dig", x.dig(0, 0, 9, 9, 1, 1), 0);
        way("a way by what is dug", x, 1, 2, 1, 1, 0);
        CHECK.due("undo", x.undo(), true);
        CHECK.promise(15, "loadsOf, 6");
        CHECK.due("no way again", x, x.loadsOf(1), -1, 6);
    }

    private static void sameRing() {
        CHECK.promise(16, "gateOf, a way without a gate");
        NarrowRings x = Check.city(THREE + ";good a long 1 wide 1 high 1 weighs 1" + order("o", "a", 2, 11, 2, 0)
            + order("p", "a", 1, 4, 1, 4));
        way("beside it, round the end", x, 0, 0, 1, 1);
        way("where it is", x, 1, 0, 0, 1);
        CHECK.due("i -1", x, x.gateOf(0, -1), -1, 1);
    }

    private static void all() {
        CHECK.promise(17, "all");
        CHECK.due("no CITY", new NarrowRings().all(), -1);
        NarrowRings none = new NarrowRings();
        CHECK.due("no CITY", none, none.all(), -1, 1);
        int[] counts = {0, 1, 7, 8};
        for (int count : counts) {
            NarrowRings x = orders(count, false);
            CHECK.due(count + " without a way", x, x.all(), 9999 * count, 0);
            NarrowRings y = orders(count, true);
            CHECK.due(count + " with one", y, y.all(), 2 * count, 0);
            CHECK.due("close", y.close(0), true);
            CHECK.due(count + " by a closed gate", y, y.all(), 9999 * count, 0);
        }
        NarrowRings z = Check.city(THREE + gate("g", 0, 0, 9, 1, 1) + ";good a long 1 wide 1 high 1 weighs 1"
            + order("o", "a", 0, 0, 1, 0) + order("p", "a", 0, 0, 2, 0) + order("q", "a", 1, 0, 1, 6));
        CHECK.due("some of each", z, z.all(), 2 + 9999, 0);
    }

    private static void led() {
        CHECK.promise(40, "led");
        NarrowRings none = new NarrowRings();
        CHECK.due("refused", none, none.all(), -1, 1);
        for (int i : new int[] {0, -1, 1, LOWEST, HIGHEST}) {
            CHECK.due("no CITY " + i, led(none, i), NO_LED);
        }
        CHECK.due("TROUBLE stays", none.trouble(), 1);
        NarrowRings x = orders(8, false);
        for (int i = 0; i < 8; i++) {
            CHECK.due("led " + i + " of eight", led(x, i), i);
        }
        for (int i : new int[] {-1, 8, LOWEST, HIGHEST}) {
            CHECK.due("led " + i + " of eight", led(x, i), NO_LED);
        }
        CHECK.due("TROUBLE stays", x.trouble(), 0);
        NarrowRings y = orders(8, true);
        CHECK.due("all have a way", led(y, 0), NO_LED);
        NarrowRings z = Check.city(THREE + gate("g", 0, 0, 9, 1, 1) + ";good a long 1 wide 1 high 1 weighs 1"
            + order("oa", "a", 0, 0, 1, 0) + order("ob", "a", 0, 0, 2, 0) + order("oc", "a", 1, 0, 1, 6)
            + order("od", "a", 2, 0, 1, 0));
        CHECK.due("the first without", led(z, 0), 1);
        CHECK.due("the second without", led(z, 1), 3);
        CHECK.due("no third", led(z, 2), NO_LED);
        CHECK.due("none below", led(z, -1), NO_LED);
        CHECK.due("close", z.close(0), true);
        CHECK.due("the first without now", led(z, 0), 0);
        CHECK.due("the third without now", led(z, 2), 3);
        CHECK.due("no fourth", led(z, 3), NO_LED);
    }
}
