import java.nio.charset.StandardCharsets;

/** The edges of Terms I and of promises 1 to 5: a new object, feed, city, fault, where. */
public final class EdgeTextTest {
    private static final Check CHECK = new Check("EdgeTextTest");
    private static final String RINGS = "rings 9,9;";
    private static final String GATE = "gate g in 0 at 0 wide 1 high 1 hands 1 toll 0";
    private static final String GOOD = "good p long 1 wide 1 high 1 weighs 1";
    private static final String RESERVED = "rings gate cart store good order parts tilts holy";

    public static void main(String[] args) {
        newObject();
        feeding();
        highestByteFirst();
        howManyBytes();
        tapeByCity();
        cityStays();
        cityBegins();
        nothingIsLeft();
        faultIsOfTheLatest();
        whereIsOfTheLatest();
        CHECK.promise(3, "city, fault, where by Terms I");
        everyByte();
        lengthsOfTokens();
        ringCounts();
        widths();
        gateBounds();
        cartBounds();
        storeBounds();
        goodBounds();
        orderBounds();
        counts();
        perhaps();
        toldOnce();
        reservedWords();
        aheadOfUse();
        lacksAndEnds();
        missingTokens();
        missingCommas();
        misspelt();
        namesAlike();
        asFullAsMayBe();
        whichFaultIsFirst();
        CHECK.end();
    }

    // -- what they share

    private static void fault(String text, int number, int place) {
        NarrowRings x = new NarrowRings();
        CHECK.due("city '" + text + "'", x, Check.tell(x, text), -1, 4);
        CHECK.due("fault '" + text + "'", x.fault(), number);
        CHECK.due("where '" + text + "'", x.where(), place);
        CHECK.due("no rings '" + text + "'", x.size(0), 0);
    }

    private static void fine(String text, int rings) {
        NarrowRings x = new NarrowRings();
        CHECK.due("city '" + text + "'", x, Check.tell(x, text), rings, 0);
        CHECK.due("fault '" + text + "'", x.fault(), 0);
        CHECK.due("where '" + text + "'", x.where(), -1);
    }

    /** A WHOLE on each side of both its bounds; no WHOLE is below 0 or has more than three digits. */
    private static void bound(String before, int low, int high, String behind) {
        int rings = (before + low + behind).split(";")[0].split(",").length;
        fine(before + low + behind, rings);
        fine(before + high + behind, rings);
        if (low > 0) {
            fault(before + (low - 1) + behind, 4, before.length());
        }
        fault(before + (high + 1) + behind, high == 999 ? 1 : 4, before.length());
    }

    private static String times(String line, int count) {
        StringBuilder text = new StringBuilder();
        for (int i = 0; i < count; i++) {
            text.append(';').append(line.replace('?', (char) ('a' + i)));
        }
        return text.toString();
    }

    // -- promises 1 to 5

    private static void newObject() {
        CHECK.promise(1, "a new object");
        NarrowRings x = new NarrowRings();
        CHECK.due("trouble", x.trouble(), 0);
        CHECK.due("fault", x.fault(), 0);
        CHECK.due("where", x.where(), -1);
        for (int what = 0; what <= 8; what++) {
            CHECK.due("size " + what, x.size(what), 0);
        }
        CHECK.due("all", x, x.all(), -1, 1);
        CHECK.due("pass 1", x, x.pass(1), -1, 1);
        CHECK.due("anew", x, x.anew(), false, 1);
        CHECK.due("loads", x, x.loads(), -1, 1);
        CHECK.due("load", x, x.load(0, 0), -1, 1);
        CHECK.due("waited", x, x.waited(), -1, 1);
        CHECK.due("mark", x, x.mark(), -1, 1);
        CHECK.due("back", x, x.back(0), false, 1);
        CHECK.due("saves", x, x.saves(0, 1, 1), -10000, 1);
        CHECK.due("breach", x, x.breach(1, 1), -1, 1);
        CHECK.due("ram", x, x.ram(1, 1, 1), -1, 1);
        CHECK.due("ramBy", x, x.ramBy(0, 1, 1, 1, 1), -1, 1);
        CHECK.due("hold", x, x.hold(0), -1, 1);
        CHECK.due("stand", x, x.stand(), -1, 1);
        CHECK.due("theft", x, x.theft(0, 0, 0, 0, false), -1, 1);
        CHECK.due("widen", x, x.widen(0, 1, 1), false, 1);
        CHECK.due("dig", x, x.dig(0, 0, 1, 1, 1, 0), -1, 1);
        CHECK.due("close", x, x.close(0), false, 1);
        CHECK.due("undo", x, x.undo(), false, 6);
    }

    private static void feeding() {
        CHECK.promise(2, "feed");
        NarrowRings x = new NarrowRings();
        CHECK.due("refused", x, x.stand(), -1, 1);
        for (int i = 1; i <= 44; i++) {
            CHECK.due("feed " + i, x.feed(0x20202020, 0x20202020, 0x20202020, 0x20202020, 0x20202020), 20 * i);
            CHECK.due("bytes " + i, x.size(8), 20 * i);
        }
        byte[] last = "           rings 9,9".getBytes(StandardCharsets.ISO_8859_1);
        CHECK.due("just 900", Check.feed(x, last), 900);
        for (int i = 0; i < 3; i++) {
            CHECK.due("more than 900", x.feed(0x3b3b3b3b, 0x3b3b3b3b, 0x3b3b3b3b, 0x3b3b3b3b, 0x3b3b3b3b), -1);
            CHECK.due("none comes", x.size(8), 900);
        }
        CHECK.due("TROUBLE stays", x.trouble(), 1);
        CHECK.due("the 900 are as they were", x, x.city(900), 2, 0);
        CHECK.due("it is empty", x.size(8), 0);
        CHECK.due("feed anew", x.feed(0, 0, 0, 0, 0), 20);
        CHECK.due("TROUBLE stays", x.trouble(), 0);
    }

    /** Each byte of the twenty in turn is one that begins no TOKEN, the lowest and the highest among them. */
    private static void highestByteFirst() {
        CHECK.promise(2, "feed, of each number the highest first");
        for (int bad : new int[] {0, 33, 127, 128, 255}) {
            for (int i = 0; i < 20; i++) {
                int[] n = new int[5];
                for (int k = 0; k < 20; k++) {
                    n[k / 4] = n[k / 4] * 256 + (k == i ? bad : 32);
                }
                NarrowRings x = new NarrowRings();
                CHECK.due("feed", x.feed(n[0], n[1], n[2], n[3], n[4]), 20);
                CHECK.due("byte " + bad, x, x.city(20), -1, 4);
                CHECK.due("byte " + bad + " at", x.where(), i);
            }
        }
        NarrowRings x = new NarrowRings();
        CHECK.due("'ring', 's 9,', '8,7 ', blanks", x.feed(0x72696e67, 0x7320392c, 0x382c3720, 0x20202020, 0x20202020), 20);
        CHECK.due("its rings", x, x.city(20), 3, 0);
    }

    private static void howManyBytes() {
        CHECK.promise(3, "city, n");
        NarrowRings x = new NarrowRings();
        int[] wrong = {-1, 1, Integer.MIN_VALUE, Integer.MAX_VALUE};
        for (int n : wrong) {
            CHECK.due("of an empty tape " + n, x, x.city(n), -1, 2);
            CHECK.due("no FAULT", x.fault(), 0);
            CHECK.due("no place", x.where(), -1);
        }
        CHECK.due("no bytes of an empty tape", x, x.city(0), -1, 4);
        CHECK.due("FORM", x.fault(), 1);
        CHECK.due("at the end", x.where(), 0);
        CHECK.due("feed", Check.feed(x, "rings 9,8,7         ".getBytes()), 20);
        wrong[1] = 21;
        for (int n : wrong) {
            CHECK.due("of twenty " + n, x, x.city(n), -1, 2);
            CHECK.due("THE TAPE stays", x.size(8), 20);
            CHECK.due("FAULT stays", x.fault(), 1);
            CHECK.due("no place by 2", x.where(), -1);
        }
        CHECK.due("all of them", x, x.city(20), 3, 0);
        for (int n = 0; n <= 20; n++) {
            NarrowRings y = new NarrowRings();
            Check.feed(y, "rings 9,8,7         ".getBytes());
            boolean whole = n >= 9 && n != 10;
            CHECK.due("the first " + n, y, y.city(n), whole ? n < 10 ? 2 : 3 : -1, whole ? 0 : 4);
            CHECK.due("where of the first " + n, y.where(), whole ? -1 : n > 0 && n < 5 ? 0 : n);
            CHECK.due("the tape is empty by " + n, y.size(8), 0);
        }
        Check.feed(x, "rings 9,8;rubbish   rubbish             ".getBytes());
        CHECK.due("what is behind n", x, x.city(9), 2, 0);
        CHECK.due("is gone", x.size(8), 0);
        CHECK.due("so one is too many", x, x.city(1), -1, 2);
    }

    private static void tapeByCity() {
        CHECK.promise(3, "city, THE TAPE");
        NarrowRings x = new NarrowRings();
        Check.feed(x, "rings 9,9;          ".getBytes());
        CHECK.due("a FAULT", x, x.city(20), -1, 4);
        CHECK.due("it is empty then", x.size(8), 0);
        CHECK.due("nothing is read again", x, x.city(9), -1, 2);
        CHECK.due("feed", Check.feed(x, "rings 7,7           ".getBytes()), 20);
        CHECK.due("a fresh text", x, x.city(9), 2, 0);
        StringBuilder text = new StringBuilder(RINGS + GOOD);
        while (text.length() < 899) {
            text.append(' ');
        }
        fine(text + " ", 2);
        fault(text + ";", 1, 900);
        fault(text + "x", 1, 899);
        fine("            " + text.substring(0, 880), 2);
    }

    private static void cityStays() {
        CHECK.promise(3, "city, by 4 the CITY stays");
        String all = "rings 9,8;" + GATE + ";cart c in 0 bears 9;" + GOOD + ";store 1 bread 9 mouths 2;"
            + "order o of p from 0,1 to 0,3 hour 0";
        NarrowRings x = Check.city(all);
        CHECK.due("widen", x.widen(0, 5, 5), true);
        CHECK.due("pass", x.pass(1), 1);
        CHECK.due("mark", x.mark(), 0);
        CHECK.due("pass", x.pass(1), 2);
        String spoilt = "rings 7,6,5;gate a in 1 at 9 wide 9 high 9 hands 9 toll 9;cart b in 2 bears 1;"
            + "cart d in 2 bears 2;store 0 bread 1 mouths 1;" + GOOD + ";" + GOOD;
        CHECK.due("a FAULT", x, Check.tell(x, spoilt), -1, 4);
        CHECK.due("AGAIN", x.fault(), 3);
        int[] sizes = {2, 1, 1, 1, 1, 2, 1, 1, 0};
        for (int what = 0; what < sizes.length; what++) {
            CHECK.due("size " + what, x.size(what), sizes[what]);
        }
        CHECK.due("gate", x.gate(0, 2), 5);
        CHECK.due("cart", x.cart(0), 0);
        CHECK.due("store", x.hold(1), 4);
        CHECK.due("ring", x.ram(1, 9, 1), 0);
        CHECK.due("the DAY", x.load(0, 4), 1);
        CHECK.due("its MARK", x, x.back(0), true, 0);
        CHECK.due("its HOUR", x.size(5), 1);
        CHECK.due("the DAY by the MARK", x.load(0, 4), 2);
        CHECK.due("undo", x, x.undo(), true, 0);
        CHECK.due("gate as it was", x.gate(0, 2), 1);
        CHECK.due("a FAULT without any byte", x, x.city(0), -1, 4);
        CHECK.due("the CITY stays", x.size(0), 2);
        CHECK.due("by 2, too", x, x.city(1), -1, 2);
        CHECK.due("the CITY stays", x.size(0), 2);
    }

    private static void cityBegins() {
        CHECK.promise(3, "city, ahead of HOUR 0; nothing to undo, no MARKS");
        NarrowRings x = Check.city(RINGS + GATE + ";cart c in 0 bears 9;" + GOOD + ";store 0 bread 9 mouths 9;"
            + "order o of p from 0,0 to 0,3 hour 0");
        CHECK.due("dig", x.dig(0, 0, 9, 9, 9, 0), 1);
        CHECK.due("pass", x.pass(9), 9);
        CHECK.due("mark", x.mark(), 0);
        CHECK.due("another city", x, Check.tell(x, "rings 7,6,5;store 1 bread 1 mouths 1"), 3, 0);
        int[] sizes = {3, 0, 0, 0, 0, 0, 0, 0, 0};
        for (int what = 0; what < sizes.length; what++) {
            CHECK.due("size " + what, x.size(what), sizes[what]);
        }
        CHECK.due("loads", x, x.loads(), 0, 0);
        CHECK.due("undo", x, x.undo(), false, 6);
        CHECK.due("back", x, x.back(0), false, 1);
        CHECK.due("no store of the first", x.hold(0), 1);
        CHECK.due("the first anew", Check.tell(x, RINGS + GATE), 2);
        CHECK.due("its gates", x.size(1), 1);
        CHECK.due("no store", x.hold(0), 999);
        for (int rings = 2; rings <= 6; rings++) {
            fine("rings 9,9,9,9,9,9".substring(0, 5 + 2 * rings), rings);
        }
    }

    /** What an earlier city or a text with a FAULT told is in none of the later ones. */
    private static void nothingIsLeft() {
        CHECK.promise(3, "city, nothing is left of an earlier one");
        String full = "rings 9,8;" + GATE + ";gate h in 0 at 3 wide 9 high 9 hands 9 toll 9;cart c in 0 bears 9;"
            + "cart d in 1 bears 9;" + GOOD + ";store 0 bread 9 mouths 9;store 1 bread 9 mouths 9;"
            + "order o of p from 0,0 to 0,3 hour 0";
        int[] none = {2, 0, 0, 0, 0, 0, 0, 0, 0};
        for (int texts = 1; texts <= 3; texts++) {
            for (String between : new String[] {"rings 9,9", full, full + ";", "!"}) {
                NarrowRings x = Check.city(full);
                CHECK.due("close", x.close(0), true);
                CHECK.due("close", x.close(1), true);
                CHECK.due("pass", x.pass(1), 1);
                for (int i = 1; i < texts; i++) {
                    Check.tell(x, between);
                }
                CHECK.due("a city of rings alone", x, Check.tell(x, "rings 7,7"), 2, 0);
                for (int what = 0; what <= 8; what++) {
                    CHECK.due("size(" + what + ")", x.size(what), none[what]);
                }
                CHECK.due("no mouths", x, x.hold(0), 999, 0);
                CHECK.due("no orders", x, x.all(), 0, 0);
                CHECK.due("no loads", x, x.waited(), 0, 0);
                CHECK.due("what is dug is open", x.dig(0, 0, 1, 1, 1, 0), 0);
                CHECK.due("gate 0", x.gate(0, 6), 0);
                CHECK.due("what is dug behind it, too", x.dig(0, 0, 1, 1, 1, 0), 1);
                CHECK.due("gate 1", x.gate(1, 6), 0);
                CHECK.due("the same NAMES", x, Check.tell(x, full), 2, 0);
                CHECK.due("gate 0 is open", x.gate(0, 6), 0);
                CHECK.due("gate 1 is open", x.gate(1, 6), 0);
                CHECK.due("its stores", x.hold(1), 0);
            }
        }
    }

    private static void faultIsOfTheLatest() {
        CHECK.promise(4, "fault");
        NarrowRings x = new NarrowRings();
        CHECK.due("without a city", x.fault(), 0);
        CHECK.due("by 2", x, x.city(1), -1, 2);
        CHECK.due("not by 2", x.fault(), 0);
        CHECK.due("a FAULT", Check.tell(x, "rings 0"), -1);
        CHECK.due("told", x.fault(), 4);
        CHECK.due("by 2", x, x.city(-1), -1, 2);
        CHECK.due("told still", x.fault(), 4);
        CHECK.due("refused otherwise", x, x.all(), -1, 1);
        CHECK.due("told still", x.fault(), 4);
        CHECK.due("another FAULT", Check.tell(x, "gate"), -1);
        CHECK.due("the latest", x.fault(), 6);
        CHECK.due("none", Check.tell(x, "rings 1,1"), 2);
        CHECK.due("0 without one", x.fault(), 0);
        CHECK.due("by 2", x, x.city(1), -1, 2);
        CHECK.due("0 still", x.fault(), 0);
    }

    private static void whereIsOfTheLatest() {
        CHECK.promise(5, "where");
        NarrowRings x = new NarrowRings();
        CHECK.due("without a city", x.where(), -1);
        CHECK.due("a FAULT", Check.tell(x, "rings 9,;"), -1);
        CHECK.due("its place", x.where(), 8);
        CHECK.due("asked again", x.where(), 8);
        CHECK.due("fault isn't refused", x.fault(), 1);
        CHECK.due("nor size", x.size(-7), -1);
        CHECK.due("nor feed", x.feed(0, 0, 0, 0, 0), 20);
        CHECK.due("nor trouble", x.trouble(), 4);
        CHECK.due("so it is told still", x.where(), 8);
        CHECK.due("refused by 1", x, x.all(), -1, 1);
        CHECK.due("none by 1", x.where(), -1);
        CHECK.due("a FAULT at the beginning", Check.tell(x, "?"), -1);
        CHECK.due("place 0 is one", x.where(), 0);
        CHECK.due("refused by 2", x, x.city(1), -1, 2);
        CHECK.due("none by 2", x.where(), -1);
        CHECK.due("a city", Check.tell(x, "rings 9,9"), 2);
        CHECK.due("none by 0", x.where(), -1);
        CHECK.due("a FAULT", Check.tell(x, " ?"), -1);
        CHECK.due("its place", x.where(), 1);
        CHECK.due("a call that isn't refused", x, x.all(), 0, 0);
        CHECK.due("none any more", x.where(), -1);
    }

    // -- Terms I: TOKENS

    /** Every byte behind a city, ahead of it, behind its WORD: 32 alone is a blank. */
    private static void everyByte() {
        for (int b = 0; b < 256; b++) {
            String c = String.valueOf((char) b);
            boolean digit = b >= '0' && b <= '9';
            if (b == ' ') {
                fine("rings 9,9" + c, 2);
                fine(c + "rings 9,9", 2);
                fine("rings" + c + "9,9", 2);
            } else {
                int number = digit ? 4 : 1;
                fault("rings 9,9" + c, number, digit ? 8 : b == ';' || b == ',' ? 10 : 9);
                fault(c + "rings 9,9", 1, 0);
                if (digit) {
                    fine("rings" + c + "9,9", 2);
                } else {
                    fault("rings" + c + "9,9", 1, b >= 'a' && b <= 'z' ? 0 : 5);
                }
            }
        }
    }

    private static void lengthsOfTokens() {
        String name = "abcdefghij";
        for (int letters = 1; letters <= 10; letters++) {
            String text = RINGS + GATE.replace(" g ", " " + name.substring(0, letters) + " ");
            if (letters <= 8) {
                fine(text, 2);
            } else {
                fault(text, 1, 15);
            }
        }
        fault("ringsrings 9,9", 1, 0);
        fault("rings 9,9;ringsring 9", 1, 10);
        fine("rings 9,9", 2);
        fine("rings 09,09", 2);
        fine("rings 009,009", 2);
        fault("rings 0009,9", 1, 6);
        fault("rings 9,0009", 1, 8);
        fault("rings 9,00000000000000000009", 1, 8);
        fault("rings 9,4294967301", 1, 8);
        fault("rings 000,9", 4, 6);
        fine("rings 9,9;store 0 bread 999 mouths 0", 2);
        fault("rings 9,9;store 0 bread 1000 mouths 0", 1, 24);
        // A WHOLE ends where a WORD begins, and the other way round.
        fine("rings9,9;gate g in0at0wide1high1hands1toll0", 2);
        fault("rings 9,9;gate g in0at0 0", 1, 24);
        // Blanks part TOKENS.
        fault("ri ngs 9,9", 1, 0);
        fault("rings 9 9", 1, 8);
        fault("rings 9,9 9", 1, 10);
        fine("   rings   9   ,   9   ;   " + GOOD.replace(" ", "   ") + "   ", 2);
        // ; and , are single ones.
        fault("rings 9,,9", 1, 8);
        fault("rings 9,9;;" + GOOD, 1, 10);
        fault(";rings 9,9", 1, 0);
        fault(",rings 9,9", 1, 0);
        fault("rings 9,9,;", 1, 10);
    }

    // -- Terms I: bounds of WHOLES

    private static void ringCounts() {
        fault("rings", 1, 5);
        fault("rings;", 1, 5);
        fault("rings 9", 1, 7);
        fault("rings 9 ", 1, 8);
        fault("rings 9;" + GOOD, 1, 7);
        fine("rings 9,9", 2);
        fine("rings 9,9,9", 3);
        fine("rings 9,9,9,9", 4);
        fine("rings 9,9,9,9,9", 5);
        fine("rings 9,9,9,9,9,9", 6);
        fault("rings 9,9,9,9,9,9,9", 5, 18);
        fault("rings 9,9,9,9,9,9,9,9", 5, 18);
        fault("rings 9,9,9,9,9,9,0", 5, 18);
        fault("rings 9,9,9,9,9,9,10", 5, 18);
        fault("rings 9,9,9,9,9,9,999", 5, 18);
        fault("rings 9,9,9,9,9,9,", 1, 18);
        fault("rings 9,9,9,9,9,9, x", 1, 19);
        fault("rings 9,9,9,9,9,10,9", 4, 16);
    }

    private static void widths() {
        bound("rings ", 1, 99, ",1;" + GOOD);
        fault("rings 0,0", 4, 6);
        bound("rings 50,", 1, 50, ";" + GOOD);
        bound("rings 50,40,", 1, 40, ";" + GOOD);
        bound("rings 50,40,30,20,10,", 1, 10, ";" + GOOD);
        // None above the one ahead, though not above the first.
        fault("rings 50,10,11", 4, 12);
        fine("rings 50,10,10", 3);
        fine("rings 99,99,99,99,99,99", 6);
        fine("rings 1,1,1,1,1,1", 6);
        fault("rings 99,100", 4, 9);
        fault("rings 100,1", 4, 6);
    }

    private static void gateBounds() {
        String widths = "rings 9,9,9,9,9,9";
        for (int rings = 2; rings <= 6; rings++) {
            bound(widths.substring(0, 5 + 2 * rings) + ";gate g in ", 0, rings - 2,
                " at 0 wide 1 high 1 hands 1 toll 0");
        }
        bound(RINGS + "gate g in 0 at ", 0, 11, " wide 1 high 1 hands 1 toll 0");
        bound(RINGS + "gate g in 0 at 0 wide ", 1, 99, " high 1 hands 1 toll 0");
        bound(RINGS + "gate g in 0 at 0 wide 1 high ", 1, 99, " hands 1 toll 0");
        bound(RINGS + "gate g in 0 at 0 wide 1 high 1 hands ", 1, 9, " toll 0");
        bound(RINGS + "gate g in 0 at 0 wide 1 high 1 hands 1 toll ", 0, 99, "");
        NarrowRings x = Check.city("rings 9,9,9;gate g in 1 at 11 wide 99 high 98 hands 9 toll 97");
        int[] row = {1, 11, 99, 98, 9, 97, 0};
        for (int what = 0; what < row.length; what++) {
            CHECK.due("a gate's " + what, x.gate(0, what), row[what]);
        }
    }

    private static void cartBounds() {
        String widths = "rings 9,9,9,9,9,9";
        for (int rings = 2; rings <= 6; rings++) {
            bound(widths.substring(0, 5 + 2 * rings) + ";cart c in ", 0, rings - 1, " bears 1");
        }
        bound(RINGS + "cart c in 0 bears ", 1, 99, "");
    }

    private static void storeBounds() {
        String widths = "rings 9,9,9,9,9,9";
        for (int rings = 2; rings <= 6; rings++) {
            bound(widths.substring(0, 5 + 2 * rings) + ";store ", 0, rings - 1, " bread 1 mouths 1");
        }
        bound(RINGS + "store 0 bread ", 0, 999, " mouths 1");
        bound(RINGS + "store 0 bread 1 mouths ", 0, 99, "");
    }

    private static void goodBounds() {
        bound(RINGS + "good p long ", 1, 99, " wide 1 high 1 weighs 1");
        bound(RINGS + "good p long 1 wide ", 1, 99, " high 1 weighs 1");
        bound(RINGS + "good p long 1 wide 1 high ", 1, 99, " weighs 1");
        bound(RINGS + "good p long 1 wide 1 high 1 weighs ", 1, 99, "");
        bound(RINGS + "good p long 1 wide 1 high 1 weighs 1 parts ", 2, 9, "");
        bound(RINGS + "good p long 1 wide 1 high 1 weighs 1 parts ", 2, 9, " tilts holy");
        fault(RINGS + "good p long 1 wide 1 high 1 weighs 1 parts 0", 4, 53);
    }

    private static void orderBounds() {
        String widths = "rings 9,9,9,9,9,9";
        for (int rings = 2; rings <= 6; rings++) {
            String head = widths.substring(0, 5 + 2 * rings) + ";" + GOOD + ";order o of p from ";
            bound(head, 0, rings - 1, ",0 to 0,0 hour 0");
            bound(head + "0,0 to ", 0, rings - 1, ",0 hour 0");
        }
        String head = RINGS + GOOD + ";order o of p from 0,";
        bound(head, 0, 11, " to 0,0 hour 0");
        bound(head + "0 to 0,", 0, 11, " hour 0");
        bound(head + "0 to 0,0 hour ", 0, 23, "");
    }

    // -- Terms I: how many, and of what

    private static void counts() {
        many("rings 9,9", "gate ? in 0 at 0 wide 1 high 1 hands 1 toll 0", "gate", 11);
        many("rings 9,9", "cart ? in 0 bears 1", "cart", 8);
        many("rings 9,9", "good ? long 1 wide 1 high 1 weighs 1", "good", 8);
        many("rings 9,9;good pp long 1 wide 1 high 1 weighs 1", "order ? of pp from 0,0 to 0,0 hour 0", "order", 8);
        // The room of goods is as much ahead of rings.
        String goods = times("good ? long 1 wide 1 high 1 weighs 1", 8).substring(1);
        fine(goods + ";rings 9,9", 2);
        fault(goods + ";good", 5, goods.length() + 1);
        // A store for each ring, and one more can only be told again or be out of bounds.
        String stores = "rings 9,9,9,9,9,9";
        for (int ring = 0; ring < 6; ring++) {
            stores = stores + ";store " + ring + " bread 999 mouths 99";
        }
        fine(stores, 6);
        fault(stores + ";store 5 bread 0 mouths 0", 3, stores.length() + 7);
        fault(stores + ";store 6 bread 0 mouths 0", 4, stores.length() + 7);
        fault(RINGS + "rings", 3, 10);
        fault(RINGS + "rings 9,9", 3, 10);
        fault(RINGS + GOOD + ";  rings", 3, 49);
    }

    private static void many(String head, String line, String word, int room) {
        String full = head + times(line, room);
        fine(head + times(line, room - 1), 2);
        fine(full, 2);
        fault(head + times(line, room + 1), 5, full.length() + 1);
        // It is one more from its first WORD on, whatever comes behind.
        fault(full + ";" + word, 5, full.length() + 1);
        fault(full + ";  " + word + " 7", 5, full.length() + 3);
        fault(full + ";" + word + " " + word, 5, full.length() + 1);
    }

    private static void perhaps() {
        String[] parts = {"", " parts 2"};
        String[] tilts = {"", " tilts"};
        String[] holy = {"", " holy"};
        for (String p : parts) {
            for (String t : tilts) {
                for (String h : holy) {
                    fine(RINGS + GOOD + p + t + h, 2);
                    fine(GOOD + p + t + h + ";rings 9,9", 2);
                }
            }
        }
        int at = RINGS.length() + GOOD.length() + 1;
        fault(RINGS + GOOD + " tilts parts 2", 1, at + 6);
        fault(RINGS + GOOD + " holy tilts", 1, at + 5);
        fault(RINGS + GOOD + " holy parts 2", 1, at + 5);
        fault(RINGS + GOOD + " parts 2 parts 2", 1, at + 8);
        fault(RINGS + GOOD + " tilts tilts", 1, at + 6);
        fault(RINGS + GOOD + " holy holy", 1, at + 5);
        fault(RINGS + GOOD + " parts", 1, at + 5);
        fault(RINGS + GOOD + " parts tilts", 1, at + 6);
        fault(RINGS + GOOD + " tilt", 1, at);
        fault(RINGS + GOOD + " 2", 1, at);
        fault(RINGS + GOOD + ", tilts", 1, at - 1);
    }

    private static void toldOnce() {
        String pp = "good pp long 1 wide 1 high 1 weighs 1;";
        String[] lines = {"gate n in 0 at 0 wide 1 high 1 hands 1 toll 0", "cart n in 0 bears 1",
            "good n long 1 wide 1 high 1 weighs 1", "order n of pp from 0,0 to 0,0 hour 0"};
        for (String one : lines) {
            fine(RINGS + pp + one, 2);
            for (String other : lines) {
                String text = RINGS + pp + one + ";" + other;
                fault(text, 3, RINGS.length() + pp.length() + one.length() + 1 + other.indexOf(" n ") + 1);
                fine(text.replaceFirst(" n ", " m "), 2);
            }
        }
        // Alike is not the same.
        fine(RINGS + pp + "cart ppp in 0 bears 1;cart p in 0 bears 1;cart pppppppp in 0 bears 1", 2);
        fault(RINGS + pp + "cart abcdefgh in 0 bears 1;cart abcdefgh", 3, RINGS.length() + pp.length() + 32);
        fine(RINGS + pp + "cart abcdefgh in 0 bears 1;cart abcdefgi in 0 bears 1", 2);
        fine(RINGS + pp + "cart abcdefgh in 0 bears 1;cart bbcdefgh in 0 bears 1", 2);
        fault(RINGS + "store 0 bread 0 mouths 0;store 0", 3, 41);
        fine(RINGS + "store 0 bread 0 mouths 0;store 1 bread 0 mouths 0", 2);
        fine(RINGS + "store 1 bread 0 mouths 0;store 0 bread 0 mouths 0", 2);
        fault(RINGS + "store 1 bread 0 mouths 0;store 001", 3, 41);
    }

    private static void reservedWords() {
        for (String word : RESERVED.split(" ")) {
            fault(RINGS + "gate " + word + " in 0", 1, 15);
            fault(RINGS + "cart " + word + " in 0", 1, 15);
            fault(RINGS + "good " + word + " long 1", 1, 15);
            fault(RINGS + "order " + word + " of p", 1, 16);
            fault(RINGS + GOOD + ";order o of " + word, 1, 10 + GOOD.length() + 12);
            fine(RINGS + "cart " + word + "x in 0 bears 1", 2);
            fine(RINGS + "cart " + word.substring(1) + " in 0 bears 1", 2);
        }
        for (String word : "in at wide high hands toll bears bread mouths long weighs of from to hour".split(" ")) {
            fine(RINGS + GATE.replace(" g ", " " + word + " "), 2);
            fine(RINGS + "good " + word + " long 1 wide 1 high 1 weighs 1;order o of " + word
                + " from 0,0 to 0,0 hour 0", 2);
        }
    }

    private static void aheadOfUse() {
        String order = "order o of p from 0,0 to 0,0 hour 0";
        fine(RINGS + GOOD + ";" + order, 2);
        fine(GOOD + ";" + RINGS + order, 2);
        fault(RINGS + order + ";" + GOOD, 2, 21);
        fault(RINGS + order, 2, 21);
        fault(RINGS + "order o of o", 2, 21);
        fault(RINGS + "gate p in 0 at 0 wide 1 high 1 hands 1 toll 0;" + order, 2, 10 + 46 + 11);
        fault(RINGS + "cart p in 0 bears 1;" + order, 2, 10 + 20 + 11);
        fault(RINGS + GOOD + ";" + order + ";order q of o", 2, 10 + 37 + 36 + 11);
        fault(RINGS + GOOD + ";order o of pp", 2, 10 + 37 + 11);
        fault(RINGS + GOOD + ";order o of 7", 1, 10 + 37 + 11);
        // The eighth good as well as the first.
        String goods = times("good ? long 1 wide 1 high 1 weighs 1", 8);
        fine("rings 9,9" + goods + ";order o of a from 0,0 to 0,0 hour 0", 2);
        fine("rings 9,9" + goods + ";order o of h from 0,0 to 0,0 hour 0", 2);
        fault("rings 9,9" + goods + ";order o of i from 0,0 to 0,0 hour 0", 2, 9 + 8 * 37 + 12);
    }

    private static void lacksAndEnds() {
        for (String word : "gate cart store order".split(" ")) {
            fault(word, 6, 0);
            fault("  " + word, 6, 2);
            fault(word + " 5;rings 9,9", 6, 0);
            fault(GOOD + ";" + word, 6, GOOD.length() + 1);
        }
        fault(GOOD, 6, GOOD.length());
        fault(GOOD + "   ", 6, GOOD.length() + 3);
        fault(GOOD + ";" + GOOD.replace(" p ", " q "), 6, 2 * GOOD.length() + 1);
        // At the end FORM is the least number of that place.
        fault(GOOD + ";", 1, GOOD.length() + 1);
        fault(GOOD + " parts", 1, GOOD.length() + 6);
        fault("", 1, 0);
        fault("   ", 1, 3);
        fault("rings 9,9;", 1, 10);
        fault("rings 9,9;  ", 1, 12);
        fault("house", 1, 0);
        fault("parts", 1, 0);
        fault("7", 1, 0);
    }

    /** Each LINE cut off ahead of each of its TOKENS, and with a TOKEN of another kind in its place. */
    private static void missingTokens() {
        String head = RINGS + GOOD + ";";
        String[] lines = {"gate g in 0 at 0 wide 1 high 1 hands 1 toll 0", "cart c in 0 bears 1",
            "store 0 bread 1 mouths 1", "good q long 1 wide 1 high 1 weighs 1 parts 2",
            "order o of p from 0 , 0 to 0 , 0 hour 0"};
        for (String line : lines) {
            for (int at = line.indexOf(' ') + 1; at > 0; at = line.indexOf(' ', at) + 1) {
                boolean mayEnd = line.startsWith("parts", at);
                if (!mayEnd) {
                    fault(head + line.substring(0, at), 1, head.length() + at);
                    fault(head + line.substring(0, at) + ";" + line, 1, head.length() + at);
                }
                fault(head + line.substring(0, at) + "! " + line.substring(at), 1, head.length() + at);
                fault(head + line.substring(0, at) + "rings", 1, head.length() + at);
                boolean comma = line.startsWith(",", at);
                if (!comma) {
                    fault(head + line.substring(0, at) + "," + line.substring(at), 1, head.length() + at);
                }
            }
            fine(head + line, 2);
            fault(head + line + " 1", 1, head.length() + line.length() + 1);
            fault(head + line + ",", 1, head.length() + line.length());
            fault(head + line + ";", 1, head.length() + line.length() + 1);
        }
    }

    private static void missingCommas() {
        String head = RINGS + GOOD + ";order o of p from ";
        fine(head + "0,0 to 0,0 hour 0", 2);
        fault(head + "0 0 to 0,0 hour 0", 1, head.length() + 2);
        fault(head + "0,0 to 0 0 hour 0", 1, head.length() + 9);
        fault(head + "0;0 to 0,0 hour 0", 1, head.length() + 1);
        fault(head + "0,,0 to 0,0 hour 0", 1, head.length() + 2);
        fault("rings 9 9", 1, 8);
        fault("rings 9,9 9", 1, 10);
        fault("rings 9,,9", 1, 8);
        fault("rings ,9,9", 1, 6);
    }

    /** Each WORD that is no NAME with each of its letters changed, one less and one more. */
    private static void misspelt() {
        String head = RINGS + GOOD + ";";
        String[] lines = {GATE, "cart c in 0 bears 1", "store 0 bread 1 mouths 1",
            "good q long 1 wide 1 high 1 weighs 1 parts 2 tilts holy", "order o of p from 0,0 to 0,0 hour 0"};
        for (String line : lines) {
            String[] words = line.split(" ");
            int at = 0;
            for (int i = 0; i < words.length; i++) {
                boolean name = i == 1 || i == 3 && words[0].equals("order");
                if (!name && words[i].charAt(0) >= 'a') {
                    misspelt(head + line.substring(0, at), words[i], line.substring(at + words[i].length()));
                }
                at += words[i].length() + 1;
            }
        }
        misspelt("", "rings", " 9,9");
    }

    private static void misspelt(String before, String word, String behind) {
        for (int i = 0; i < word.length(); i++) {
            char other = word.charAt(i) == 'z' ? 'a' : (char) (word.charAt(i) + 1);
            fault(before + word.substring(0, i) + other + word.substring(i + 1) + behind, 1, before.length());
            fault(before + word.substring(0, i) + word.substring(i + 1) + behind, 1, before.length());
        }
        fault(before + word + "s" + behind, 1, before.length());
        fault(before + "s" + word + behind, 1, before.length());
        fault(before + word + word.charAt(0) + behind, 1, before.length());
    }

    private static void namesAlike() {
        String[] alike = {"a", "aa", "aaaaaaaa", "b", "ab", "ba", "z", "zzzzzzzz"};
        StringBuilder text = new StringBuilder("rings 9,9");
        for (String name : alike) {
            text.append(";good ").append(name).append(" long 1 wide 1 high 1 weighs 1");
        }
        fine(text.toString(), 2);
        for (int i = 0; i < alike.length; i++) {
            // The carts bear no more than 1, so which good the order is of can be told by its way.
            String good = "good " + alike[i] + " long 1 wide 1 high 1 weighs ";
            String heavy = text.toString().replace(good + "1", good + "2") + ";cart c in 0 bears 1";
            for (int k = 0; k < alike.length; k++) {
                NarrowRings x = Check.city(heavy + ";order o of " + alike[k] + " from 0,0 to 0,0 hour 0");
                CHECK.due(alike[i] + " is heavy, of " + alike[k], x, x.payOf(0), i == k ? -2 : 0, 0);
            }
            fault(text + ";cart " + alike[i], 3, text.length() + 6);
        }
    }

    /** Of each sort as many as 900 bytes hold. */
    private static void asFullAsMayBe() {
        StringBuilder text = new StringBuilder("rings9,9,9,9,9,9");
        text.append(times("gate a? in0at0wide1high1hands1toll0", 11)).append(times("cart b? in0bears1", 8))
            .append(times("good c? long1wide1high1weighs1", 4)).append(times("order d? of ca from0,0to0,0hour0", 6));
        CHECK.due("no more than 900 bytes", text.length() <= 900, true);
        NarrowRings x = Check.city(text.toString());
        int[] sizes = {6, 11, 8, 4, 6, 0, 0, 0, 0};
        for (int what = 0; what <= 8; what++) {
            CHECK.due("size(" + what + ")", x.size(what), sizes[what]);
        }
        while (text.length() < 900) {
            text.append(' ');
        }
        fine(text.toString(), 6);
    }

    /** The first that is met from the left, though one behind it has a lesser number. */
    private static void whichFaultIsFirst() {
        fault("rings 9,10;!", 4, 8);
        fault("rings 9,9;gate g in 7 at 99", 4, 20);
        fault("rings 9,9;order o of p from 0,0 !", 2, 21);
        fault("gate !", 6, 0);
        fault("rings 9,9;rings 0", 3, 10);
        fault("rings 9,9,9,9,9,9,9!", 5, 18);
        fault("rings 9,9;store 2 bread !", 4, 16);
        fault("! rings 0", 1, 0);
        fault("rings 9,9;store 0 bread 1 mouths 1;store 0 !", 3, 41);
        fault("rings 9,9;cart c in 0 bears 100;cart c", 4, 28);
        // Of one place: four digits are no WHOLE that is out of bounds, nor is a seventh width of four digits one.
        fault("rings 1000,9", 1, 6);
        fault("rings 9,9,9,9,9,9,1000", 1, 18);
        // A NAME that is told again is no less told again where a good is told at the same time.
        fault(RINGS + GOOD + ";order p of p", 3, 10 + 37 + 6);
    }
}
