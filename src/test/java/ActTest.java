/** Promises 36 to 39 and 41: widen, dig, close, undo, size; and 42 (trouble) by them. */
public final class ActTest {
    private static final Check CHECK = new Check("ActTest");
    private static final String CITY = "rings 20,20,9;gate g in 0 at 3 wide 4 high 4 hands 1 toll 9;"
        + "cart a in 0 bears 9;cart b in 1 bears 9;good p long 1 wide 5 high 5 weighs 2;"
        + "order x of p from 0,0 to 1,0 hour 0";

    public static void main(String[] args) {
        widening();
        digging();
        closing();
        undoing();
        tenAreKept();
        sizes();
        CHECK.end();
    }

    private static void widening() {
        NarrowRings x = Check.city(CITY);
        CHECK.due("no gate", x, x.widen(1, 5, 5), false, 1);
        CHECK.due("no gate below", x, x.widen(-1, 0, 0), false, 1);
        int[][] wrong = {{0, 5}, {100, 5}, {5, 0}, {5, 100}};
        for (int[] a : wrong) {
            CHECK.due("a number", x, x.widen(0, a[0], a[1]), false, 2);
        }
        CHECK.due("neither is more", x, x.widen(0, 4, 4), false, 5);
        CHECK.due("nor so", x, x.widen(0, 1, 3), false, 5);
        CHECK.due("no act yet", x.size(7), 0);
        CHECK.due("loads", x.loads(), 0);
        CHECK.due("pass", x.pass(3), 3);
        CHECK.due("wider alone", x, x.widen(0, 5, 1), true, 0);
        CHECK.due("wide", x.gate(0, 2), 5);
        CHECK.due("high", x.gate(0, 3), 4);
        CHECK.due("the day begins anew", x.size(5), 0);
        CHECK.due("higher alone", x, x.widen(0, 2, 5), true, 0);
        CHECK.due("wide", x.gate(0, 2), 5);
        CHECK.due("high", x.gate(0, 3), 5);
        CHECK.due("now it goes through", x.payOf(0), 11);
        CHECK.due("loads now", x.loads(), 1);
        CHECK.due("the widest", x, x.widen(0, 99, 99), true, 0);
        CHECK.due("close", x.close(0), true);
        CHECK.due("closed", x, x.widen(0, 99, 99), false, 5);
        NarrowRings y = Check.city(CITY);
        CHECK.due("close", y.close(0), true);
        CHECK.due("closed, though it is more", y, y.widen(0, 9, 9), false, 5);
    }

    private static void digging() {
        NarrowRings x = Check.city(CITY);
        CHECK.due("the innermost ring", x, x.dig(2, 0, 1, 1, 1, 0), -1, 1);
        CHECK.due("no ring", x, x.dig(3, 0, 1, 1, 1, 0), -1, 1);
        CHECK.due("no ring below", x, x.dig(-1, 0, 0, 1, 1, 0), -1, 1);
        CHECK.due("no ring far above", x, x.dig(Integer.MAX_VALUE, 0, 1, 1, 1, 0), -1, 1);
        CHECK.due("no place", x, x.dig(0, 12, 1, 1, 1, 0), -1, 1);
        CHECK.due("no place below", x, x.dig(0, -1, 1, 1, 1, 0), -1, 1);
        int[][] wrong = {{0, 1, 1, 0}, {100, 1, 1, 0}, {1, 0, 1, 0}, {1, 100, 1, 0}, {1, 1, 0, 0}, {1, 1, 10, 0},
            {1, 1, 1, -1}, {1, 1, 1, 100}};
        for (int[] a : wrong) {
            CHECK.due("a number", x, x.dig(0, 0, a[0], a[1], a[2], a[3]), -1, 2);
        }
        CHECK.due("dig", x, x.dig(0, 11, 5, 6, 9, 99), 1, 0);
        int[] row = {0, 11, 5, 6, 9, 99, 0};
        for (int what = 0; what < 7; what++) {
            CHECK.due("what is dug " + what, x.gate(1, what), row[what]);
        }
        CHECK.due("its way", x.gateOf(0, 0), 1);
        CHECK.due("its pay", x.payOf(0), 99 + 9);
        CHECK.due("dig inward", x.dig(1, 0, 99, 99, 1, 0), 2);
        for (int g = 3; g < 11; g++) {
            CHECK.due("dig " + g, x, x.dig(0, 0, 1, 1, 1, 0), g, 0);
        }
        CHECK.due("gates", x.size(1), 11);
        CHECK.due("dig a twelfth", x, x.dig(0, 0, 1, 1, 1, 0), -1, 3);
        CHECK.due("a number goes ahead", x, x.dig(0, 0, 0, 1, 1, 0), -1, 2);
        CHECK.due("a closed one needs its room", x.close(3), true);
        CHECK.due("dig a twelfth still", x, x.dig(0, 0, 1, 1, 1, 0), -1, 3);
    }

    private static void closing() {
        NarrowRings x = Check.city(CITY.replace("wide 4 high 4", "wide 5 high 5"));
        CHECK.due("pay", x.payOf(0), 11);
        CHECK.due("pass", x.pass(3), 3);
        CHECK.due("no gate", x, x.close(1), false, 1);
        CHECK.due("no gate below", x, x.close(-1), false, 1);
        CHECK.due("close", x, x.close(0), true, 0);
        CHECK.due("closed", x.gate(0, 6), 1);
        CHECK.due("no way", x.payOf(0), -2);
        CHECK.due("no load", x.loads(), 0);
        CHECK.due("the day begins anew", x.size(5), 0);
        CHECK.due("close again", x, x.close(0), false, 5);
        CHECK.due("the gate still counts", x.size(1), 1);
        CHECK.due("undo", x, x.undo(), true, 0);
        CHECK.due("open", x.gate(0, 6), 0);
        CHECK.due("pay again", x.payOf(0), 11);
    }

    private static void undoing() {
        NarrowRings x = Check.city(CITY);
        CHECK.due("nothing to undo", x, x.undo(), false, 6);
        CHECK.due("widen", x.widen(0, 7, 8), true);
        CHECK.due("dig", x.dig(0, 1, 9, 9, 1, 0), 1);
        CHECK.due("widen what is dug", x.widen(1, 10, 10), true);
        CHECK.due("close it", x.close(1), true);
        CHECK.due("acts", x.size(7), 4);
        CHECK.due("pass", x.pass(5), 5);
        CHECK.due("undo close", x, x.undo(), true, 0);
        CHECK.due("open", x.gate(1, 6), 0);
        CHECK.due("the day begins anew", x.size(5), 0);
        CHECK.due("pay by it", x.payOf(0), 2);
        CHECK.due("undo widen", x.undo(), true);
        CHECK.due("as dug", x.gate(1, 2), 9);
        CHECK.due("undo dig", x.undo(), true);
        CHECK.due("no such gate", x, x.gate(1, 0), -1, 1);
        CHECK.due("gates", x.size(1), 1);
        CHECK.due("pay by the widened", x.payOf(0), 11);
        CHECK.due("dig anew", x.dig(1, 2, 3, 4, 5, 6), 1);
        CHECK.due("its ring", x.gate(1, 0), 1);
        CHECK.due("undo", x.undo(), true);
        CHECK.due("undo the first", x.undo(), true);
        CHECK.due("wide", x.gate(0, 2), 4);
        CHECK.due("high", x.gate(0, 3), 4);
        CHECK.due("no way", x.payOf(0), -2);
        CHECK.due("acts", x.size(7), 0);
        CHECK.due("no more", x, x.undo(), false, 6);
    }

    private static void tenAreKept() {
        NarrowRings x = Check.city(CITY);
        for (int i = 5; i <= 16; i++) {
            CHECK.due("widen", x.widen(0, i, 1), true);
            CHECK.due("acts", x.size(7), Math.min(10, i - 4));
        }
        for (int i = 15; i >= 6; i--) {
            CHECK.due("undo", x, x.undo(), true, 0);
            CHECK.due("wide", x.gate(0, 2), i);
        }
        CHECK.due("two are forgotten", x, x.undo(), false, 6);
        CHECK.due("wide", x.gate(0, 2), 6);
    }

    private static void sizes() {
        NarrowRings x = Check.city(CITY);
        CHECK.due("all", x.all(), 9999);
        int[] want = {3, 1, 2, 1, 1, 0, 0, 0, 0};
        for (int what = 0; what < 9; what++) {
            CHECK.due("size " + what, x.size(what), want[what]);
        }
        CHECK.due("size 9", x.size(9), -1);
        CHECK.due("size -1", x.size(-1), -1);
        CHECK.due("size leaves trouble alone", x.trouble(), 0);
        CHECK.due("feed", x.feed(0, 0, 0, 0, 0), 20);
        CHECK.due("pass", x.pass(7), 7);
        CHECK.due("mark", x.mark(), 0);
        CHECK.due("hour", x.size(5), 7);
        CHECK.due("marks", x.size(6), 1);
        CHECK.due("tape", x.size(8), 20);
        CHECK.due("refused", x.pass(0), -1);
        CHECK.due("size leaves trouble alone", x.size(77), -1);
        CHECK.due("trouble", x.trouble(), 2);
        CHECK.due("trouble again", x.trouble(), 2);
        CHECK.due("not refused", x.stand(), 2);
        CHECK.due("trouble", x.trouble(), 0);
    }
}
