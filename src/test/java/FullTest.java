/** A city as full as may be: six rings, eleven gates, eight carts, goods and orders, 72 loads. */
public final class FullTest {
    private static final Check CHECK = new Check("FullTest");

    public static void main(String[] args) {
        deep();
        manyLoads();
        everyArgument();
        CHECK.end();
    }

    private static String sixRings() {
        StringBuilder text = new StringBuilder("rings 9,9,9,9,9,9");
        for (int i = 0; i < 11; i++) {
            text.append(";gate a").append((char) ('a' + i)).append(" in ").append(i % 5).append(" at ").append(i)
                .append(" wide 9 high 9 hands 9 toll 0");
        }
        for (int i = 0; i < 6; i++) {
            text.append(";cart b").append((char) ('a' + i)).append(" in ").append(i).append(" bears 99");
        }
        return text.append(";good p long 9 wide 1 high 1 weighs 9 parts 9;good q long 1 wide 1 high 1 weighs 99").toString();
    }

    private static void deep() {
        NarrowRings x = Check.city(sixRings() + ";order o of q from 0,0 to 5,0 hour 0");
        CHECK.due("deepest", x.deepest(0), 5);
        CHECK.due("deepest cut", x.deepestCut(0), 5);
        CHECK.due("ram", x.ram(1, 1, 1), 5);
        CHECK.due("ramBy", x.ramBy(10, 1, 1, 1, 99), 5);
        CHECK.due("pay", x.payOf(0), 5 * 99);
        CHECK.due("hours", x.hoursOf(0), 5 * 11 + 4 + 4);
        int[] gates = {0, 1, 2, 3, 4};
        for (int i = 0; i < 5; i++) {
            CHECK.due("gate " + i, x.gateOf(0, i), gates[i]);
        }
        CHECK.due("no sixth", x, x.gateOf(0, 5), -1, 1);
        CHECK.due("theft", x.theft(0, 5, 11, 99, false), 2047);
        CHECK.due("hold", x.hold(5), 999);
        CHECK.due("breach", x.breach(99, 99), 0);
        CHECK.due("pass", x.pass(60), 60);
        CHECK.due("still on its way", x.load(0, 3), 4);
        CHECK.due("pass", x.pass(60), 120);
        CHECK.due("there", x.load(0, 7), 64);
        CHECK.due("ring", x.load(0, 1), 5);
        CHECK.due("no more hours", x, x.pass(1), -1, 3);
        CHECK.due("hours left of none", x.load(0, 4), 0);
    }

    private static NarrowRings full() {
        StringBuilder text = new StringBuilder("rings 9,1,1,1,1,1");
        for (int i = 0; i < 2; i++) {
            text.append(";gate a").append((char) ('a' + i)).append(" in 0 at 6 wide 1 high 9 hands 1 toll 1");
        }
        for (int i = 0; i < 8; i++) {
            text.append(";cart b").append((char) ('a' + i)).append(" in ").append(i % 2).append(" bears 1");
        }
        text.append(";good p long 9 wide 1 high 1 weighs 9 parts 9");
        for (int i = 0; i < 8; i++) {
            text.append(";order c").append((char) ('a' + i)).append(" of p from 0,5 to 1,6 hour 0");
        }
        return Check.city(text.toString());
    }

    private static void manyLoads() {
        NarrowRings x = full();
        CHECK.due("loads", x.loads(), 72);
        CHECK.due("no load", x, x.load(72, 0), -1, 1);
        CHECK.due("order of the last", x.load(71, 0), 7);
        CHECK.due("mark", x.mark(), 0);
        CHECK.due("pass", x.pass(60), 60);
        // Four carts of ring 0 bring four an hour; gate 0 takes one an hour, from hour 1 on.
        CHECK.due("there in hour 2", x.load(0, 7), 2);
        CHECK.due("there in hour 59", x.load(57, 7), 59);
        CHECK.due("being loaded over", x.busy(0), 58);
        CHECK.due("the other gate is for nobody", x.worked(1), 0);
        CHECK.due("tolls", x.tolls(0), 59);
        CHECK.due("pass", x.pass(60), 120);
        CHECK.due("the last is there", x.load(71, 7), 73);
        CHECK.due("back", x.back(0), true);
        CHECK.due("hour", x.size(5), 0);
        CHECK.due("the last has not begun", x.load(71, 3), 0);
    }

    /** No argument may make the machine throw, in a full city, a small one or none. */
    private static void everyArgument() {
        int[] odd = {Integer.MIN_VALUE, -2, -1, 0, 1, 5, 6, 8, 10, 11, 12, 60, 72, 99, 100, Integer.MAX_VALUE};
        NarrowRings[] all = {full(), Check.city(sixRings()), Check.city("rings 1,1"), new NarrowRings()};
        for (NarrowRings x : all) {
            for (int a : odd) {
                for (int b : odd) {
                    for (boolean cut : new boolean[] {false, true}) {
                        x.fits(0, cut, a, b);
                        x.bars(a, b, cut);
                        x.theft(0, a, b, 99, cut);
                        x.theft(a, 0, 0, b, cut);
                    }
                    x.gate(a, b);
                    x.load(a, b);
                    x.gateOf(a, b);
                    x.pay(0, a, b, 1, 0);
                    x.hours(0, 0, 0, a, b);
                    x.saves(a, b, b);
                    x.ramBy(a, b, b, b, b);
                    x.dig(a, b, 1, 1, 1, 1);
                    x.dig(0, 0, a, b, 1, 1);
                    x.dig(0, 0, 1, 1, a, b);
                    x.widen(a, b, b);
                }
                x.close(a);
                x.back(a);
                x.pass(a);
                x.mark();
                x.cart(a);
                x.busy(a);
                x.hold(a);
                x.size(a);
                x.undo();
            }
            CHECK.due("nothing is thrown", x.trouble() >= 0, true);
        }
    }
}
