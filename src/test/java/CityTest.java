/** Promises 1 to 5 (a new object, feed, city, fault, where), THE TEXT, and 42 (trouble). */
public final class CityTest {
    private static final Check CHECK = new Check("CityTest");
    private static final String RINGS = "rings 20,10;";
    private static final String GOOD = "good g long 1 wide 2 high 3 weighs 4";

    public static void main(String[] args) {
        newObject();
        tape();
        cityStaysOrGoes();
        tokens();
        forms();
        goodsOfOrders();
        toldAgain();
        bounds();
        many();
        lacks();
        leastOfOnePlace();
        names();
        CHECK.end();
    }

    private static void fault(String text, int number, int place) {
        NarrowRings x = new NarrowRings();
        CHECK.due("city of '" + text + "'", x, Check.tell(x, text), -1, 4);
        CHECK.due("fault of '" + text + "'", x.fault(), number);
        CHECK.due("where of '" + text + "'", x.where(), place);
    }

    private static void fine(String text, int rings) {
        NarrowRings x = new NarrowRings();
        CHECK.due("city of '" + text + "'", x, Check.tell(x, text), rings, 0);
        CHECK.due("fault of '" + text + "'", x.fault(), 0);
        CHECK.due("where of '" + text + "'", x.where(), -1);
    }

    private static void newObject() {
        NarrowRings x = new NarrowRings();
        CHECK.due("new trouble", x.trouble(), 0);
        CHECK.due("new fault", x.fault(), 0);
        CHECK.due("new where", x.where(), -1);
        for (int what = 0; what <= 8; what++) {
            CHECK.due("new size " + what, x.size(what), 0);
        }
        CHECK.due("new gate", x, x.gate(0, 0), -1, 1);
        CHECK.due("new fits", x, x.fits(0, false, 0, 0), -1, 1);
        CHECK.due("new bars", x, x.bars(0, 0, false), -1, 1);
        CHECK.due("new deepest", x, x.deepest(0), -1, 1);
        CHECK.due("new deepestCut", x, x.deepestCut(0), -1, 1);
        CHECK.due("new pay", x, x.pay(0, 0, 0, 0, 0), -1, 1);
        CHECK.due("new hours", x, x.hours(0, 0, 0, 0, 0), -1, 1);
        CHECK.due("new payOf", x, x.payOf(0), -1, 1);
        CHECK.due("new hoursOf", x, x.hoursOf(0), -1, 1);
        CHECK.due("new loadsOf", x, x.loadsOf(0), -1, 1);
        CHECK.due("new gateOf", x, x.gateOf(0, 0), -1, 1);
        CHECK.due("new all", x, x.all(), -1, 1);
        CHECK.due("new pass", x, x.pass(0), -1, 1);
        CHECK.due("new anew", x, x.anew(), false, 1);
        CHECK.due("new loads", x, x.loads(), -1, 1);
        CHECK.due("new load", x, x.load(0, 0), -1, 1);
        CHECK.due("new cart", x, x.cart(0), -1, 1);
        CHECK.due("new busy", x, x.busy(0), -1, 1);
        CHECK.due("new tolls", x, x.tolls(0), -1, 1);
        CHECK.due("new worked", x, x.worked(0), -1, 1);
        CHECK.due("new waited", x, x.waited(), -1, 1);
        CHECK.due("new mark", x, x.mark(), -1, 1);
        CHECK.due("new back", x, x.back(0), false, 1);
        CHECK.due("new saves", x, x.saves(0, 0, 0), -10000, 1);
        CHECK.due("new breach", x, x.breach(0, 0), -1, 1);
        CHECK.due("new ram", x, x.ram(0, 0, 0), -1, 1);
        CHECK.due("new ramBy", x, x.ramBy(0, 0, 0, 0, 0), -1, 1);
        CHECK.due("new hold", x, x.hold(0), -1, 1);
        CHECK.due("new stand", x, x.stand(), -1, 1);
        CHECK.due("new theft", x, x.theft(0, 0, 0, 100, false), -1, 1);
        CHECK.due("new widen", x, x.widen(0, 0, 0), false, 1);
        CHECK.due("new dig", x, x.dig(0, 0, 0, 0, 0, 0), -1, 1);
        CHECK.due("new close", x, x.close(0), false, 1);
        CHECK.due("new undo", x, x.undo(), false, 6);
    }

    private static void tape() {
        NarrowRings x = new NarrowRings();
        CHECK.due("refused", x, x.all(), -1, 1);
        for (int i = 1; i <= 45; i++) {
            CHECK.due("feed " + i, x.feed(0x20202020, -1, 0, Integer.MIN_VALUE, 7), 20 * i);
        }
        CHECK.due("feed too much", x.feed(0, 0, 0, 0, 0), -1);
        CHECK.due("tape after that", x.size(8), 900);
        CHECK.due("feed leaves trouble alone", x.trouble(), 1);
        CHECK.due("city of too many", x, x.city(901), -1, 2);
        CHECK.due("city of less than none", x, x.city(-1), -1, 2);
        CHECK.due("tape stays", x.size(8), 900);
        CHECK.due("city of a byte that is none", x, x.city(900), -1, 4);
        CHECK.due("where the byte is", x.where(), 4);
        CHECK.due("tape is empty", x.size(8), 0);
        StringBuilder text = new StringBuilder("rings 5,5");
        while (text.length() < 900) {
            text.append(' ');
        }
        fine(text.toString(), 2);
        text.setCharAt(899, ';');
        fault(text.toString(), 1, 900);
    }

    private static void cityStaysOrGoes() {
        NarrowRings x = Check.city(RINGS + "gate a in 0 at 1 wide 2 high 3 hands 4 toll 5");
        CHECK.due("mark", x.mark(), 0);
        CHECK.due("close", x.close(0), true);
        CHECK.due("mark", x.mark(), 0);
        CHECK.due("pass", x.pass(3), 3);
        CHECK.due("a city with a fault", x, Check.tell(x, "rings 5,5,5;x"), -1, 4);
        CHECK.due("where", x.where(), 12);
        CHECK.due("rings stay", x.size(0), 2);
        CHECK.due("hour stays", x.size(5), 3);
        CHECK.due("marks stay", x.size(6), 1);
        CHECK.due("acts stay", x.size(7), 1);
        CHECK.due("gate stays closed", x.gate(0, 6), 1);
        CHECK.due("where is gone by a call that is not refused", x.where(), -1);
        CHECK.due("fault is not", x.fault(), 1);
        CHECK.due("refused by 2", x, x.city(1), -1, 2);
        CHECK.due("fault stays", x.fault(), 1);
        CHECK.due("where by 2", x.where(), -1);
        Check.feed(x, "rings 9,8,7;rubbish behind it".getBytes());
        CHECK.due("the first bytes alone", x, x.city(11), 3, 0);
        CHECK.due("the tape is empty", x.size(8), 0);
        CHECK.due("fault", x.fault(), 0);
        CHECK.due("gates", x.size(1), 0);
        CHECK.due("hour", x.size(5), 0);
        CHECK.due("marks", x.size(6), 0);
        CHECK.due("acts", x.size(7), 0);
        CHECK.due("undo", x, x.undo(), false, 6);
        CHECK.due("no city", x, x.city(0), -1, 4);
        CHECK.due("no city's place", x.where(), 0);
        CHECK.due("led is no call that may be refused", led(x), -1);
        CHECK.due("size neither", x.size(9), -1);
        CHECK.due("nor feed", x.feed(0, 0, 0, 0, 0), 20);
        CHECK.due("where is still told", x.where(), 0);
        CHECK.due("all", x, x.all(), 0, 0);
        CHECK.due("where is not any more", x.where(), -1);
    }

    private static int led(NarrowRings x) {
        try {
            return x.led(0);
        } catch (java.util.NoSuchElementException e) {
            return -1;
        }
    }

    private static void tokens() {
        fine("rings5,5", 2);
        fine("  rings  005 , 5  ", 2);
        fine("rings 9,9;gate abcdefgh in0at1wide2high3hands4toll5", 2);
        fault("rings 9,9;gate abcdefghi in 0", 1, 15);
        fault("rings 9,0009", 1, 8);
        fault("rings 9,1000", 1, 8);
        fault("Rings 9,9", 1, 0);
        fault("rings\t9,9", 1, 5);
        fault("rings 9,9 .", 1, 10);
        fault("rings 9,9;good \u00e9", 1, 15);
        fault("rings 9,9;\u0000", 1, 10);
        fault("ri ngs 9,9", 1, 0);
        fault("rings 9,1 0", 1, 10);
    }

    private static void forms() {
        fault("", 1, 0);
        fault("   ", 1, 3);
        fault(";", 1, 0);
        fault("rings", 1, 5);
        fault("rings ", 1, 6);
        fault("rings 5;", 1, 7);
        fault("rings ,", 1, 6);
        fault("rings 5,5,", 1, 10);
        fault("rings 5,5,x", 1, 10);
        fault("rings 5,5,5,5,5,5,", 1, 18);
        fault("rings 5,5;", 1, 10);
        fault("rings 5,5;;", 1, 10);
        fault("rings 5,5 gate", 1, 10);
        fault("rings 5,5;house", 1, 10);
        fault("rings 5,5;gate holy", 1, 15);
        fault("rings 5,5;gate 5", 1, 15);
        fault("rings 5,5;gate a at", 1, 17);
        fault("rings 5,5;gate a in x", 1, 20);
        fault("rings 5,5;cart tilts", 1, 15);
        fault("rings 5,5;store x", 1, 16);
        fault("rings 5,5;store 0 mouths", 1, 18);
        fault("rings 5,5;" + GOOD + " parts holy", 1, 53);
        fault("rings 5,5;" + GOOD + " holy tilts", 1, 52);
        fault("rings 5,5;" + GOOD + " holy parts 2", 1, 52);
        fault("rings 5,5;" + GOOD + " tilts tilts", 1, 53);
        fault("rings 5,5;" + GOOD + " 3", 1, 47);
        fault("rings 5,5;" + GOOD + ";order o of parts", 1, 58);
        fault("rings 5,5;" + GOOD + ";order o of g from 0 0", 1, 67);
        fault("rings 5,5;" + GOOD + ";order o of g from 0,0 to 1,0", 1, 75);
        fine("rings 5,5;" + GOOD + " parts 2", 2);
        fine("rings 5,5;" + GOOD + " parts 2 tilts", 2);
        fine("rings 5,5;" + GOOD + " parts 2 holy", 2);
        fine("rings 5,5;" + GOOD + " parts 2 tilts holy", 2);
        fine("rings 5,5;" + GOOD + " tilts holy", 2);
        fine("rings 5,5;" + GOOD + " holy", 2);
        fine(GOOD + ";rings 5,5", 2);
        fine("rings 6,5,4,3,2,1", 6);
    }

    private static void goodsOfOrders() {
        fault(RINGS + "order o of g", 2, 23);
        fault(RINGS + "cart c in 0 bears 1;order o of c", 2, 43);
        fault(RINGS + "order o of o", 2, 23);
        fault(RINGS + "order o of g from 0,0 to 0,0 hour 0;" + GOOD, 2, 23);
        fine(RINGS + GOOD + ";order o of g from 0,0 to 1,11 hour 23", 2);
    }

    private static void toldAgain() {
        fault(RINGS + "rings 5", 3, 12);
        fault(RINGS + "gate a in 0 at 0 wide 1 high 1 hands 1 toll 0;gate a", 3, 63);
        fault(RINGS + "gate a in 0 at 0 wide 1 high 1 hands 1 toll 0;cart a", 3, 63);
        fault(RINGS + GOOD + ";good g", 3, 54);
        fault(RINGS + GOOD + ";order g of g", 3, 55);
        fault(RINGS + "store 1 bread 0 mouths 0;store 0 bread 0 mouths 0;store 1", 3, 68);
        fault(RINGS + "store 1 bread 0 mouths 0;store 0 bread 0 mouths 0;store 2", 4, 68);
    }

    private static void bounds() {
        fault("rings 0,0", 4, 6);
        fault("rings 100,5", 4, 6);
        fault("rings 9,0", 4, 8);
        fault("rings 9,8,9", 4, 10);
        fine("rings 99,99", 2);
        fine("rings 1,1", 2);
        String gate = RINGS + "gate a in 0 at 11 wide 99 high 99 hands 9 toll 99";
        fine(gate, 2);
        fine(RINGS + "gate a in 0 at 0 wide 1 high 1 hands 1 toll 0", 2);
        fault(gate.replace("in 0", "in 1"), 4, 22);
        fault(gate.replace("at 11", "at 12"), 4, 27);
        fault(gate.replace("wide 99", "wide 0"), 4, 35);
        fault(gate.replace("wide 99", "wide 100"), 4, 35);
        fault(gate.replace("high 99", "high 0"), 4, 43);
        fault(gate.replace("high 99", "high 100"), 4, 43);
        fault(gate.replace("hands 9", "hands 0"), 4, 52);
        fault(gate.replace("hands 9", "hands 10"), 4, 52);
        fault(gate.replace("toll 99", "toll 100"), 4, 59);
        fine(RINGS + "cart a in 1 bears 99", 2);
        fault(RINGS + "cart a in 2 bears 99", 4, 22);
        fault(RINGS + "cart a in 1 bears 0", 4, 30);
        fault(RINGS + "cart a in 1 bears 100", 4, 30);
        fine(RINGS + "store 1 bread 999 mouths 99", 2);
        fault(RINGS + "store 2 bread 999 mouths 99", 4, 18);
        fault(RINGS + "store 1 bread 999 mouths 100", 4, 37);
        goodBounds();
        orderBounds();
    }

    private static void goodBounds() {
        String good = RINGS + "good g long 99 wide 98 high 97 weighs 96 parts 9";
        fine(good, 2);
        fault(good.replace("99", "100"), 4, 24);
        fault(good.replace("99", "0"), 4, 24);
        fault(good.replace("98", "100"), 4, 32);
        fault(good.replace("98", "0"), 4, 32);
        fault(good.replace("97", "100"), 4, 40);
        fault(good.replace("97", "0"), 4, 40);
        fault(good.replace("96", "100"), 4, 50);
        fault(good.replace("96", "0"), 4, 50);
        fault(good.replace("parts 9", "parts 1"), 4, 59);
        fault(good.replace("parts 9", "parts 10"), 4, 59);
    }

    private static void orderBounds() {
        String head = RINGS + GOOD + ";";
        int at = head.length();
        String order = head + "order o of g from 1,10 to 0,11 hour 23";
        fine(order, 2);
        fault(order.replace("from 1", "from 2"), 4, at + 18);
        fault(order.replace(",10 to", ",12 to"), 4, at + 20);
        fault(order.replace("to 0", "to 2"), 4, at + 26);
        fault(order.replace(",11", ",12"), 4, at + 28);
        fault(order.replace("hour 23", "hour 24"), 4, at + 36);
    }

    private static String lines(String line, int count) {
        StringBuilder text = new StringBuilder();
        for (int i = 0; i < count; i++) {
            text.append(';').append(line.replace('?', (char) ('a' + i)));
        }
        return text.toString();
    }

    private static void many() {
        fault("rings 6,5,4,3,2,1,1", 5, 18);
        fault("rings 6,5,4,3,2,1,100", 5, 18);
        fault("rings 6,5,4,3,2,1,1000", 1, 18);
        String gate = "gate ? in 0 at 0 wide 1 high 1 hands 1 toll 0";
        fine("rings 9,9" + lines(gate, 11), 2);
        fault("rings 9,9" + lines(gate, 11) + ";gate", 5, 9 + 11 * 46 + 1);
        String cart = "cart ? in 0 bears 1";
        fine("rings 9,9" + lines(cart, 8), 2);
        fault("rings 9,9" + lines(cart, 9), 5, 9 + 8 * 20 + 1);
        String good = "good ? long 1 wide 1 high 1 weighs 1";
        fine("rings 9,9" + lines(good, 8), 2);
        fault("rings 9,9" + lines(good, 8) + ";good 5", 5, 9 + 8 * 37 + 1);
        String order = "order ? of xx from 0,0 to 0,0 hour 0";
        String head = "rings 9,9;good xx long 1 wide 1 high 1 weighs 1";
        fine(head + lines(order, 8), 2);
        fault(head + lines(order, 9), 5, head.length() + 8 * 37 + 1);
    }

    private static void lacks() {
        fault("gate a", 6, 0);
        fault(" cart", 6, 1);
        fault("store", 6, 0);
        fault("order o of", 6, 0);
        fault(GOOD + ";order o of g", 6, 37);
        fault(GOOD, 6, 36);
        fault(GOOD + "  ", 6, 38);
        fault(GOOD + ";", 1, 37);
    }

    private static void leastOfOnePlace() {
        fault(GOOD + " gate", 1, 37);
        fault("rings 5,6;rings", 4, 8);
        fault("rings 5,5;store 7 x", 4, 16);
    }

    private static void names() {
        fine(RINGS + "gate in in 0 at 0 wide 1 high 1 hands 1 toll 0;cart wide in 0 bears 1", 2);
        fine(RINGS + "good long long 1 wide 1 high 1 weighs 1;order of of long from 0,0 to 0,0 hour 0", 2);
        String[] alike = {"a", "aa", "b", "bb", "z", "zz", "zzzzzzzz", "aaaaaaaa"};
        StringBuilder text = new StringBuilder("rings 9,9");
        for (String name : alike) {
            text.append(";good ").append(name).append(" long 1 wide 1 high 1 weighs 1");
        }
        fine(text.toString(), 2);
        for (String word : "rings gate cart store good order parts tilts holy".split(" ")) {
            fault(RINGS + "gate " + word, 1, 17);
            fault(RINGS + "cart " + word, 1, 17);
            fault(RINGS + "good " + word, 1, 17);
            fault(RINGS + "order " + word, 1, 18);
            fault(RINGS + "order o of " + word, 1, 23);
        }
        NarrowRings x = new NarrowRings();
        Check.tell(x, RINGS + GOOD + ";x");
        CHECK.due("names of a text before are gone", Check.tell(x, RINGS + GOOD), 2);
        CHECK.due("goods", x.size(3), 1);
    }
}
