import java.util.Arrays;
import java.util.NoSuchElementException;

/** A hill city of rings, its gates, carts, goods and orders, as ../shared/DOC.md promises it. */
public final class NarrowRings {
    public static final int NONE = -1;

    private static final int NOT_THERE = -2;
    private static final int NO_SAVING = -10000;
    private static final int NO_WAY_PAY = 9999;
    private static final int TAPE = 900;
    private static final int FED = 20;
    private static final int PLACES = 12;
    private static final int MOST = 99;
    private static final int MOST_HANDS = 9;
    private static final int MOST_PARTS = 9;
    private static final int MOST_BREAD = 999;
    private static final int LAST_HOUR = 23;
    private static final int MARKS = 3;
    private static final int DAY_HOURS = 120;
    private static final int PASS_HOURS = 60;

    private static final int NO_SUCH = 1;
    private static final int NUMBER = 2;
    private static final int NO_ROOM = 3;
    private static final int FAULTY = 4;
    private static final int NOT_SO = 5;
    private static final int IS_NONE = 6;

    private final int[] tape;
    private int fed;
    private City city;
    private City spare;
    private final Reader reader;
    private final Finder finder;
    private final Way[] ways;
    private final Way asked;
    private final int[] askedRow;
    private final Day day;
    private final Day[] marks;
    private int marked;
    private final Acts acts;
    private final Thief thief;
    private final Thing rammer;
    private int fault;
    private int faultPlace;
    private int trouble;

    public NarrowRings() {
        tape = new int[TAPE];
        city = new City();
        spare = new City();
        reader = new Reader(tape, spare);
        finder = new Finder(city);
        ways = new Way[City.ORDERS];
        for (int i = 0; i < City.ORDERS; i++) {
            ways[i] = new Way();
        }
        asked = new Way();
        askedRow = new int[City.ORDER_ROW];
        day = new Day(city, ways);
        marks = new Day[MARKS];
        for (int i = 0; i < MARKS; i++) {
            marks[i] = new Day(city, ways);
        }
        acts = new Acts();
        thief = new Thief();
        rammer = new Thing();
    }

    // ---- the city

    public int feed(int a, int b, int c, int d, int e) {
        if (fed + FED > TAPE) {
            return NONE;
        }
        append(a);
        append(b);
        append(c);
        append(d);
        append(e);
        return fed;
    }

    public int city(int n) {
        if (n < 0 || n > fed) {
            return refuse(NUMBER);
        }
        fed = 0;
        fault = reader.read(spare, n);
        if (fault != 0) {
            faultPlace = reader.place;
            return refuse(FAULTY);
        }
        City old = city;
        city = spare;
        spare = old;
        acts.count = 0;
        planAnew();
        return grant(city.rings);
    }

    public int fault() {
        return fault;
    }

    public int where() {
        return trouble == FAULTY ? faultPlace : NONE;
    }

    // ---- what fits

    public int gate(int g, int what) {
        if (!isGate(g) || !within(what, City.GATE_ROW)) {
            return refuse(NO_SUCH);
        }
        return grant(city.gate[g][what]);
    }

    public int fits(int good, boolean isGate, int which, int pose) {
        boolean known = isGate ? isGate(which) : isRing(which);
        if (!isGood(good) || !known || !within(pose, Thing.POSES)) {
            return refuse(NO_SUCH);
        }
        Thing thing = city.whole[good];
        if (!thing.canLie(pose)) {
            return refuse(NOT_SO);
        }
        boolean fits = isGate ? city.meets(thing, pose, which) == 0 : city.ringTakes(thing, pose, which);
        return grant(fits ? 1 : 0);
    }

    public int bars(int good, int gate, boolean cut) {
        if (!isGood(good) || !isGate(gate)) {
            return refuse(NO_SUCH);
        }
        if (cut && !city.canCut(good)) {
            return refuse(NOT_SO);
        }
        return grant(city.barOf(city.thing(good, cut), gate));
    }

    public int deepest(int good) {
        if (!isGood(good)) {
            return refuse(NO_SUCH);
        }
        return grant(city.depthOf(city.thing(good, false), true));
    }

    public int deepestCut(int good) {
        if (!isGood(good)) {
            return refuse(NO_SUCH);
        }
        if (!city.canCut(good)) {
            return refuse(NOT_SO);
        }
        return grant(city.depthOf(city.thing(good, true), true));
    }

    // ---- ways

    public int pay(int good, int ring, int place, int toRing, int toPlace) {
        if (!ask(good, ring, place, toRing, toPlace)) {
            return refuse(NO_SUCH);
        }
        return grant(asked.found ? asked.pay : NOT_THERE);
    }

    public int hours(int good, int ring, int place, int toRing, int toPlace) {
        if (!ask(good, ring, place, toRing, toPlace)) {
            return refuse(NO_SUCH);
        }
        return grant(asked.found ? asked.hours : NOT_THERE);
    }

    public int payOf(int order) {
        if (!isOrder(order)) {
            return refuse(NO_SUCH);
        }
        return grant(ways[order].found ? ways[order].pay : NOT_THERE);
    }

    public int hoursOf(int order) {
        if (!isOrder(order)) {
            return refuse(NO_SUCH);
        }
        return grant(ways[order].found ? ways[order].hours : NOT_THERE);
    }

    public int loadsOf(int order) {
        if (!isOrder(order)) {
            return refuse(NO_SUCH);
        }
        if (!ways[order].found) {
            return refuse(IS_NONE);
        }
        return grant(ways[order].loads);
    }

    public int gateOf(int order, int i) {
        // Below 0 there is no i-th of anything; only from 0 up does it hang on the way.
        if (!isOrder(order) || i < 0) {
            return refuse(NO_SUCH);
        }
        Way way = ways[order];
        if (!way.found) {
            return refuse(IS_NONE);
        }
        if (!within(i, way.gates)) {
            return refuse(NO_SUCH);
        }
        return grant(way.gate[i]);
    }

    public int all() {
        if (!isCity()) {
            return refuse(NO_SUCH);
        }
        return grant(allPay());
    }

    // ---- a day

    public int pass(int n) {
        if (!isCity()) {
            return refuse(NO_SUCH);
        }
        if (n < 1 || n > PASS_HOURS) {
            return refuse(NUMBER);
        }
        if (day.hour + n > DAY_HOURS) {
            return refuse(NO_ROOM);
        }
        for (int i = 0; i < n; i++) {
            day.goOn();
        }
        return grant(day.hour);
    }

    public boolean anew() {
        if (!isCity()) {
            return deny(NO_SUCH);
        }
        day.begin(city, ways);
        return allow();
    }

    public int loads() {
        if (!isCity()) {
            return refuse(NO_SUCH);
        }
        return grant(day.loads);
    }

    public int load(int l, int what) {
        if (!within(l, day.loads) || !within(what, Day.TOLD)) {
            return refuse(NO_SUCH);
        }
        return grant(day.row[what][l]);
    }

    public int cart(int c) {
        if (!within(c, city.carts)) {
            return refuse(NO_SUCH);
        }
        return grant(day.onCart[c]);
    }

    public int busy(int g) {
        if (!isGate(g)) {
            return refuse(NO_SUCH);
        }
        return grant(day.atGate[g]);
    }

    public int tolls(int g) {
        if (!isGate(g)) {
            return refuse(NO_SUCH);
        }
        return grant(day.paid[g]);
    }

    public int worked(int g) {
        if (!isGate(g)) {
            return refuse(NO_SUCH);
        }
        return grant(day.toiled[g]);
    }

    public int waited() {
        if (!isCity()) {
            return refuse(NO_SUCH);
        }
        return grant(day.allWaits());
    }

    public int mark() {
        if (!isCity()) {
            return refuse(NO_SUCH);
        }
        if (marked >= MARKS) {
            return refuse(NO_ROOM);
        }
        marks[marked].copy(day);
        marked++;
        return grant(marked - 1);
    }

    public boolean back(int mark) {
        if (!within(mark, marked)) {
            return deny(NO_SUCH);
        }
        day.copy(marks[mark]);
        return allow();
    }

    // ---- breaches, rams, stores, thefts

    public int saves(int gate, int wide, int high) {
        if (!isGate(gate)) {
            trouble = NO_SUCH;
            return NO_SAVING;
        }
        if (!isSize(wide) || !isSize(high)) {
            trouble = NUMBER;
            return NO_SAVING;
        }
        return grant(savingOf(gate, wide, high));
    }

    public int breach(int wide, int high) {
        if (!isCity()) {
            return refuse(NO_SUCH);
        }
        if (!isSize(wide) || !isSize(high)) {
            return refuse(NUMBER);
        }
        if (city.gates == 0) {
            return refuse(IS_NONE);
        }
        int best = 0;
        int most = savingOf(0, wide, high);
        for (int g = 1; g < city.gates; g++) {
            int saving = savingOf(g, wide, high);
            if (saving > most) {
                most = saving;
                best = g;
            }
        }
        return grant(best);
    }

    public int ram(int length, int wide, int high) {
        if (!isCity()) {
            return refuse(NO_SUCH);
        }
        if (!isSize(length) || !isSize(wide) || !isSize(high)) {
            return refuse(NUMBER);
        }
        rammer.measure(length, wide, high);
        return grant(city.depthOf(rammer, false));
    }

    public int ramBy(int gate, int length, int wide, int high, int newWide) {
        if (!isGate(gate)) {
            return refuse(NO_SUCH);
        }
        if (!isSize(length) || !isSize(wide) || !isSize(high) || !isSize(newWide)) {
            return refuse(NUMBER);
        }
        rammer.measure(length, wide, high);
        int[] row = city.gate[gate];
        int oldWide = row[City.WIDE];
        row[City.WIDE] = Math.max(oldWide, newWide);
        int depth = city.depthOf(rammer, false);
        row[City.WIDE] = oldWide;
        return grant(depth);
    }

    public int hold(int ring) {
        if (!isRing(ring)) {
            return refuse(NO_SUCH);
        }
        return grant(city.daysOf(ring));
    }

    public int stand() {
        if (!isCity()) {
            return refuse(NO_SUCH);
        }
        int best = 0;
        for (int ring = 1; ring < city.rings; ring++) {
            if (city.daysOf(ring) >= city.daysOf(best)) {
                best = ring;
            }
        }
        return grant(best);
    }

    public int theft(int good, int ring, int place, int hours, boolean cut) {
        if (!isGood(good) || !isSpot(ring, place)) {
            return refuse(NO_SUCH);
        }
        if (hours < 0 || hours > MOST) {
            return refuse(NUMBER);
        }
        if (cut && !city.canCut(good)) {
            return refuse(NOT_SO);
        }
        return grant(thief.gatesOf(city, city.thing(good, cut), ring * PLACES + place, hours));
    }

    // ---- acts

    public boolean widen(int gate, int wide, int high) {
        if (!isGate(gate)) {
            return deny(NO_SUCH);
        }
        if (!isSize(wide) || !isSize(high)) {
            return deny(NUMBER);
        }
        int[] row = city.gate[gate];
        boolean more = wide > row[City.WIDE] || high > row[City.HIGH];
        if (!more || row[City.CLOSED] != 0) {
            return deny(NOT_SO);
        }
        acts.keep(city, gate);
        enlarge(row, wide, high);
        planAnew();
        return allow();
    }

    public int dig(int ring, int place, int wide, int high, int hands, int toll) {
        if (!isSpot(ring, place) || !isRing(ring + 1)) {
            return refuse(NO_SUCH);
        }
        boolean bounded = isSize(wide) && isSize(high) && hands >= 1 && hands <= MOST_HANDS
            && toll >= 0 && toll <= MOST;
        if (!bounded) {
            return refuse(NUMBER);
        }
        if (city.gates >= City.GATES) {
            return refuse(NO_ROOM);
        }
        int g = city.gates;
        acts.keep(city, g);
        int[] row = city.gate[g];
        row[City.RING] = ring;
        row[City.PLACE] = place;
        row[City.WIDE] = wide;
        row[City.HIGH] = high;
        row[City.HANDS] = hands;
        row[City.TOLL] = toll;
        row[City.CLOSED] = 0;
        city.gates = g + 1;
        planAnew();
        return grant(g);
    }

    public boolean close(int gate) {
        if (!isGate(gate)) {
            return deny(NO_SUCH);
        }
        if (city.gate[gate][City.CLOSED] != 0) {
            return deny(NOT_SO);
        }
        acts.keep(city, gate);
        city.gate[gate][City.CLOSED] = 1;
        planAnew();
        return allow();
    }

    public boolean undo() {
        if (acts.count == 0) {
            return deny(IS_NONE);
        }
        acts.takeBack(city);
        planAnew();
        return allow();
    }

    public int led(int i) throws NoSuchElementException {
        int left = i;
        for (int order = 0; i >= 0 && order < city.orders; order++) {
            if (!ways[order].found) {
                if (left == 0) {
                    return order;
                }
                left--;
            }
        }
        throw new NoSuchElementException();
    }

    public int size(int what) {
        switch (what) {
            case 0: return city.rings;
            case 1: return city.gates;
            case 2: return city.carts;
            case 3: return city.goods;
            case 4: return city.orders;
            case 5: return day.hour;
            case 6: return marked;
            case 7: return acts.count;
            case 8: return fed;
            default: return NONE;
        }
    }

    public int trouble() {
        return trouble;
    }

    // ---- what the calls share

    private int refuse(int number) {
        trouble = number;
        return NONE;
    }

    private int grant(int answer) {
        trouble = 0;
        return answer;
    }

    private boolean deny(int number) {
        trouble = number;
        return false;
    }

    private boolean allow() {
        trouble = 0;
        return true;
    }

    private static boolean within(int i, int count) {
        return i >= 0 && i < count;
    }

    private static boolean isSize(int n) {
        return n >= 1 && n <= MOST;
    }

    private boolean isCity() {
        return city.rings > 0;
    }

    private boolean isRing(int ring) {
        return within(ring, city.rings);
    }

    private boolean isSpot(int ring, int place) {
        return isRing(ring) && within(place, PLACES);
    }

    private boolean isGate(int g) {
        return within(g, city.gates);
    }

    private boolean isGood(int good) {
        return within(good, city.goods);
    }

    private boolean isOrder(int order) {
        return within(order, city.orders);
    }

    private void append(int number) {
        for (int shift = 24; shift >= 0 && fed < TAPE; shift -= 8) {
            tape[fed] = number >>> shift & 255;
            fed++;
        }
    }

    private boolean ask(int good, int ring, int place, int toRing, int toPlace) {
        if (!isGood(good) || !isSpot(ring, place) || !isSpot(toRing, toPlace)) {
            return false;
        }
        askedRow[City.GOOD] = good;
        askedRow[City.FROM_RING] = ring;
        askedRow[City.FROM_PLACE] = place;
        askedRow[City.TO_RING] = toRing;
        askedRow[City.TO_PLACE] = toPlace;
        finder.seek(city, askedRow, asked);
        return true;
    }

    /** The gates are new or changed: ways and the DAY follow from them, and no MARK fits them. */
    private void planAnew() {
        for (int order = 0; order < city.orders; order++) {
            finder.seek(city, city.order[order], ways[order]);
        }
        day.begin(city, ways);
        marked = 0;
    }

    private int allPay() {
        int sum = 0;
        for (int order = 0; order < city.orders; order++) {
            sum += ways[order].found ? ways[order].pay : NO_WAY_PAY;
        }
        return sum;
    }

    private int savingOf(int gate, int wide, int high) {
        int[] row = city.gate[gate];
        int oldWide = row[City.WIDE];
        int oldHigh = row[City.HIGH];
        // Such a breach opens no way: the ways need not be looked for again.
        if (row[City.CLOSED] != 0 || wide <= oldWide && high <= oldHigh) {
            return 0;
        }
        int saving = allPay();
        enlarge(row, wide, high);
        for (int order = 0; order < city.orders; order++) {
            finder.seek(city, city.order[order], asked);
            saving -= asked.found ? asked.pay : NO_WAY_PAY;
        }
        row[City.WIDE] = oldWide;
        row[City.HIGH] = oldHigh;
        return saving;
    }

    private static void enlarge(int[] gateRow, int wide, int high) {
        gateRow[City.WIDE] = Math.max(gateRow[City.WIDE], wide);
        gateRow[City.HIGH] = Math.max(gateRow[City.HIGH], high);
    }

    private static int apart(int place, int other) {
        int straight = place < other ? other - place : place - other;
        return straight <= PLACES - straight ? straight : PLACES - straight;
    }

    private static int upwards(int number, int by) {
        return by <= 1 ? number : (number + by - 1) / by;
    }

    /** What is to be moved: a good, a part of one, or a ram; its measures are by POSES. */
    private static final class Thing {
        static final int LYING = 0;
        static final int ON_SIDE = 1;
        static final int UPRIGHT = 2;
        static final int POSES = 3;

        final int[] length;
        final int[] wide;
        final int[] high;
        int weight;
        int loads;
        boolean turns;
        boolean tilts;

        Thing() {
            length = new int[POSES];
            wide = new int[POSES];
            high = new int[POSES];
        }

        void measure(int itsLength, int itsWide, int itsHigh) {
            length[LYING] = itsLength;
            wide[LYING] = itsWide;
            high[LYING] = itsHigh;
            length[ON_SIDE] = itsLength;
            wide[ON_SIDE] = itsHigh;
            high[ON_SIDE] = itsWide;
            length[UPRIGHT] = itsHigh;
            wide[UPRIGHT] = itsWide;
            high[UPRIGHT] = itsLength;
        }

        boolean canLie(int pose) {
            return pose == LYING || pose == ON_SIDE && turns || pose == UPRIGHT && tilts;
        }

        /** The least width of its POSES: upright it is as wide as lying. */
        int narrowest() {
            return turns && wide[ON_SIDE] < wide[LYING] ? wide[ON_SIDE] : wide[LYING];
        }
    }

    /** What a text tells, and the gates as ACTS leave them. */
    private static final class City {
        static final int RINGS = 6;
        static final int GATES = 11;
        static final int CARTS = 8;
        static final int GOODS = 8;
        static final int ORDERS = 8;

        // A gate's row, numbered as gate(g, what) asks for it.
        static final int RING = 0;
        static final int PLACE = 1;
        static final int WIDE = 2;
        static final int HIGH = 3;
        static final int HANDS = 4;
        static final int TOLL = 5;
        static final int CLOSED = 6;
        static final int GATE_ROW = 7;

        // A cart's row begins with its RING.
        static final int BEARS = 1;
        static final int CART_ROW = 2;

        static final int TOLD = 0;
        static final int BREAD = 1;
        static final int MOUTHS = 2;
        static final int STORE_ROW = 3;
        static final int ENDLESS = 999;

        static final int GOOD = 0;
        static final int FROM_RING = 1;
        static final int FROM_PLACE = 2;
        static final int TO_RING = 3;
        static final int TO_PLACE = 4;
        static final int HOUR = 5;
        static final int ORDER_ROW = 6;

        int rings;
        int gates;
        int carts;
        int goods;
        int orders;
        final int[] width;
        final int[][] gate;
        final int[][] cart;
        final int[][] store;
        final int[][] order;
        final Thing[] whole;
        final Thing[] part;

        City() {
            width = new int[RINGS];
            gate = new int[GATES][GATE_ROW];
            cart = new int[CARTS][CART_ROW];
            store = new int[RINGS][STORE_ROW];
            order = new int[ORDERS][ORDER_ROW];
            whole = new Thing[GOODS];
            part = new Thing[GOODS];
            for (int i = 0; i < GOODS; i++) {
                whole[i] = new Thing();
                part[i] = new Thing();
            }
        }

        void empty() {
            rings = 0;
            gates = 0;
            carts = 0;
            goods = 0;
            orders = 0;
            for (int ring = 0; ring < RINGS; ring++) {
                Arrays.fill(store[ring], 0);
            }
        }

        Thing thing(int good, boolean cut) {
            return cut ? part[good] : whole[good];
        }

        boolean canCut(int good) {
            return part[good].loads > 1;
        }

        boolean ringTakes(Thing thing, int pose, int ring) {
            return thing.wide[pose] <= width[ring];
        }

        boolean ringBears(Thing thing, int ring) {
            if (thing.narrowest() > width[ring]) {
                return false;
            }
            for (int c = 0; c < carts; c++) {
                if (cartBears(thing, c, ring)) {
                    return true;
                }
            }
            return false;
        }

        boolean cartBears(Thing thing, int c, int ring) {
            return cart[c][RING] == ring && cart[c][BEARS] >= thing.weight;
        }

        /** The first that bars the thing in this pose at a gate, by its number; 0 if it fits. */
        int meets(Thing thing, int pose, int g) {
            int[] row = gate[g];
            int outer = width[row[RING]];
            int inner = width[row[RING] + 1];
            int wide = thing.wide[pose];
            int corner = thing.length[pose] + wide;
            if (wide > outer) {
                return 1;
            }
            if (wide > row[WIDE]) {
                return 2;
            }
            if (thing.high[pose] > row[HIGH]) {
                return 3;
            }
            if (wide > inner) {
                return 4;
            }
            if (corner > outer + row[WIDE]) {
                return 5;
            }
            return corner > inner + row[WIDE] ? 6 : 0;
        }

        int barOf(Thing thing, int g) {
            int least = meets(thing, Thing.LYING, g);
            for (int pose = Thing.ON_SIDE; pose < Thing.POSES; pose++) {
                if (thing.canLie(pose)) {
                    least = Math.min(least, meets(thing, pose, g));
                }
            }
            return least;
        }

        boolean letsThrough(Thing thing, int g) {
            return gate[g][CLOSED] == 0 && barOf(thing, g) == 0;
        }

        int loadingHours(Thing thing, int g) {
            return upwards(thing.weight, gate[g][HANDS]);
        }

        int loadingPay(Thing thing, int g) {
            return gate[g][TOLL] + loadingHours(thing, g) * gate[g][HANDS];
        }

        /** How deep it comes from ring 0; a ring needs a cart for it only if it is carted. */
        int depthOf(Thing thing, boolean carted) {
            if (!ringSuits(thing, 0, carted)) {
                return NOT_THERE;
            }
            int ring = 0;
            while (ring + 1 < rings && ringSuits(thing, ring + 1, carted) && someGateLets(thing, ring)) {
                ring++;
            }
            return ring;
        }

        private boolean ringSuits(Thing thing, int ring, boolean carted) {
            return carted ? ringBears(thing, ring) : thing.narrowest() <= width[ring];
        }

        private boolean someGateLets(Thing thing, int ring) {
            for (int g = 0; g < gates; g++) {
                if (gate[g][RING] == ring && letsThrough(thing, g)) {
                    return true;
                }
            }
            return false;
        }

        int daysOf(int ring) {
            int bread = 0;
            int mouths = 0;
            for (int r = 0; r < rings; r++) {
                mouths += store[r][MOUTHS];
                bread += r >= ring ? store[r][BREAD] : 0;
            }
            return mouths == 0 ? ENDLESS : bread / mouths;
        }
    }

    /** Reads THE TEXT of a CITY and finds its first FAULT. */
    private static final class Reader {
        static final int FORM = 1;
        static final int NO_GOOD = 2;
        static final int AGAIN = 3;
        static final int BOUNDS = 4;
        static final int MANY = 5;
        static final int LACKS = 6;

        static final int END = 0;
        static final int WORD = 1;
        static final int WHOLE = 2;
        static final int SEMICOLON = 3;
        static final int COMMA = 4;
        static final int BAD = 5;

        static final int LETTERS = 8;
        static final int DIGITS = 3;
        static final int NAMES = City.GATES + City.CARTS + City.GOODS + City.ORDERS;

        // A good's measures while its LINE is read.
        static final int LONG = 0;
        static final int WIDE = 1;
        static final int HIGH = 2;
        static final int WEIGHS = 3;
        static final int MEASURES = 4;

        int place;
        private final int[] text;
        private int length;
        private int at;
        private int behind;
        private int kind;
        private int value;
        private long code;
        private int taken;
        private int fault;
        private City into;
        private final long[] name;
        private final int[] goodOf;
        private int names;
        private final int[] measure;

        Reader(int[] tape, City target) {
            text = tape;
            into = target;
            name = new long[NAMES];
            goodOf = new int[NAMES];
            measure = new int[MEASURES];
        }

        /** Reads the first n bytes into a city that is spoilt if there is a FAULT; the FAULT's number, or 0. */
        int read(City target, int n) {
            into = target;
            into.empty();
            length = n < text.length ? n : text.length;
            behind = 0;
            names = 0;
            fault = 0;
            place = 0;
            step();
            for (int lines = 0; lines <= TAPE && readLine(); lines++) {
                if (kind == END) {
                    if (into.rings == 0) {
                        flaw(LACKS, at);
                    }
                    return fault;
                }
                if (kind != SEMICOLON) {
                    flaw(FORM, at);
                    return fault;
                }
                step();
            }
            return fault;
        }

        private boolean flaw(int number, int where) {
            fault = number;
            place = where;
            return false;
        }

        // -- TOKENS

        /** Goes to the next TOKEN; too many letters or digits together are none, from their first on. */
        private void step() {
            at = behind;
            while (at < length && text[at] == ' ') {
                at++;
            }
            behind = at;
            code = 0;
            while (behind < length && text[behind] >= 'a' && text[behind] <= 'z') {
                code = code * 32 + text[behind] - 'a' + 1;
                behind++;
            }
            if (behind > at) {
                kind = behind - at <= LETTERS ? WORD : BAD;
                return;
            }
            value = 0;
            while (behind < length && text[behind] >= '0' && text[behind] <= '9') {
                value = value * 10 + text[behind] - '0';
                behind++;
            }
            if (behind > at) {
                kind = behind - at <= DIGITS ? WHOLE : BAD;
                return;
            }
            behind = at + 1;
            if (at >= length) {
                kind = END;
            } else if (text[at] == ';') {
                kind = SEMICOLON;
            } else {
                kind = text[at] == ',' ? COMMA : BAD;
            }
        }

        private boolean isWord(String word) {
            if (kind != WORD || behind - at != word.length()) {
                return false;
            }
            for (int i = 0; i < word.length() && at + i < length; i++) {
                if (text[at + i] != word.charAt(i)) {
                    return false;
                }
            }
            return true;
        }

        private boolean isName() {
            boolean reserved = isWord("rings") || isWord("gate") || isWord("cart") || isWord("store")
                || isWord("good") || isWord("order") || isWord("parts") || isWord("tilts")
                || isWord("holy");
            return kind == WORD && !reserved;
        }

        // -- what a LINE is made of: each goes on behind it, or tells the FAULT and answers false

        private boolean needWord(String word) {
            if (!isWord(word)) {
                return flaw(FORM, at);
            }
            step();
            return true;
        }

        private boolean needComma() {
            if (kind != COMMA) {
                return flaw(FORM, at);
            }
            step();
            return true;
        }

        private boolean needWhole(int low, int high) {
            if (kind != WHOLE) {
                return flaw(FORM, at);
            }
            if (value < low || value > high) {
                return flaw(BOUNDS, at);
            }
            taken = value;
            step();
            return true;
        }

        private boolean needSaid(String word, int low, int high, int[] row, int i) {
            if (!needWord(word) || !needWhole(low, high)) {
                return false;
            }
            put(row, i);
            return true;
        }

        private boolean needPlace(int[] row, int i) {
            if (!needComma() || !needWhole(0, PLACES - 1)) {
                return false;
            }
            put(row, i);
            return true;
        }

        private void put(int[] row, int i) {
            if (i >= 0 && i < row.length) {
                row[i] = taken;
            }
        }

        private boolean needNewName(int good) {
            if (!isName()) {
                return flaw(FORM, at);
            }
            if (nameNumber() != NONE || names >= NAMES) {
                return flaw(AGAIN, at);
            }
            name[names] = code;
            goodOf[names] = good;
            names++;
            step();
            return true;
        }

        private boolean needGood(int[] row, int i) {
            if (!isName()) {
                return flaw(FORM, at);
            }
            int number = nameNumber();
            if (number == NONE || goodOf[number] == NONE) {
                return flaw(NO_GOOD, at);
            }
            taken = goodOf[number];
            put(row, i);
            step();
            return true;
        }

        private int nameNumber() {
            for (int i = 0; i < names && i < NAMES; i++) {
                if (name[i] == code) {
                    return i;
                }
            }
            return NONE;
        }

        // -- LINES

        private boolean readLine() {
            if (isWord("rings")) {
                return ringsLine();
            }
            if (isWord("gate")) {
                return gateLine();
            }
            if (isWord("cart")) {
                return cartLine();
            }
            if (isWord("store")) {
                return storeLine();
            }
            if (isWord("good")) {
                return goodLine();
            }
            return isWord("order") ? orderLine() : flaw(FORM, at);
        }

        /** Whether a LINE that tells rings may begin, so many of its sort being told. */
        private boolean mayTellRings(int told, int room) {
            if (told >= room) {
                return flaw(MANY, at);
            }
            return into.rings > 0 || flaw(LACKS, at);
        }

        private boolean ringsLine() {
            if (into.rings > 0) {
                return flaw(AGAIN, at);
            }
            int widest = MOST;
            int count = 0;
            // A width stands behind the WORD rings and behind each comma.
            do {
                step();
                if (count >= City.RINGS) {
                    return flaw(kind == WHOLE ? MANY : FORM, at);
                }
                if (!needWhole(1, widest)) {
                    return false;
                }
                widest = taken;
                into.width[count] = taken;
                count++;
            } while (kind == COMMA && count <= City.RINGS);
            if (count < 2) {
                return flaw(FORM, at);
            }
            into.rings = count;
            return true;
        }

        private boolean gateLine() {
            if (!mayTellRings(into.gates, City.GATES)) {
                return false;
            }
            int[] row = into.gate[into.gates];
            into.gates++;
            row[City.CLOSED] = 0;
            step();
            return needNewName(NONE)
                && needSaid("in", 0, into.rings - 2, row, City.RING)
                && needSaid("at", 0, PLACES - 1, row, City.PLACE)
                && needSaid("wide", 1, MOST, row, City.WIDE)
                && needSaid("high", 1, MOST, row, City.HIGH)
                && needSaid("hands", 1, MOST_HANDS, row, City.HANDS)
                && needSaid("toll", 0, MOST, row, City.TOLL);
        }

        private boolean cartLine() {
            if (!mayTellRings(into.carts, City.CARTS)) {
                return false;
            }
            int[] row = into.cart[into.carts];
            into.carts++;
            step();
            return needNewName(NONE)
                && needSaid("in", 0, into.rings - 1, row, City.RING)
                && needSaid("bears", 1, MOST, row, City.BEARS);
        }

        private boolean storeLine() {
            // No count of stores: a store too many tells some ring again.
            if (!mayTellRings(0, City.RINGS)) {
                return false;
            }
            step();
            int ringAt = at;
            if (!needWhole(0, into.rings - 1)) {
                return false;
            }
            int[] row = into.store[taken];
            if (row[City.TOLD] != 0) {
                return flaw(AGAIN, ringAt);
            }
            row[City.TOLD] = 1;
            return needSaid("bread", 0, MOST_BREAD, row, City.BREAD)
                && needSaid("mouths", 0, MOST, row, City.MOUTHS);
        }

        private boolean goodLine() {
            int good = into.goods;
            if (good >= City.GOODS) {
                return flaw(MANY, at);
            }
            into.goods++;
            step();
            boolean measured = needNewName(good)
                && needSaid("long", 1, MOST, measure, LONG)
                && needSaid("wide", 1, MOST, measure, WIDE)
                && needSaid("high", 1, MOST, measure, HIGH)
                && needSaid("weighs", 1, MOST, measure, WEIGHS);
            return measured && goodKind(good);
        }

        private boolean goodKind(int good) {
            int parts = 0;
            if (isWord("parts")) {
                step();
                if (!needWhole(2, MOST_PARTS)) {
                    return false;
                }
                parts = taken;
            }
            boolean tilts = isWord("tilts");
            if (tilts) {
                step();
            }
            boolean holy = isWord("holy");
            if (holy) {
                step();
            }
            shape(into.whole[good], 1, tilts, !holy);
            shape(into.part[good], holy ? 0 : parts, tilts, !holy);
            return true;
        }

        private void shape(Thing thing, int loads, boolean tilts, boolean turns) {
            thing.measure(upwards(measure[LONG], loads), measure[WIDE], measure[HIGH]);
            thing.weight = upwards(measure[WEIGHS], loads);
            thing.loads = loads;
            thing.tilts = tilts;
            thing.turns = turns;
        }

        private boolean orderLine() {
            if (!mayTellRings(into.orders, City.ORDERS)) {
                return false;
            }
            int[] row = into.order[into.orders];
            into.orders++;
            step();
            return needNewName(NONE)
                && needWord("of") && needGood(row, City.GOOD)
                && needSaid("from", 0, into.rings - 1, row, City.FROM_RING) && needPlace(row, City.FROM_PLACE)
                && needSaid("to", 0, into.rings - 1, row, City.TO_RING) && needPlace(row, City.TO_PLACE)
                && needSaid("hour", 0, LAST_HOUR, row, City.HOUR);
        }
    }

    /** A BEST way, or that there is none. */
    private static final class Way {
        boolean found;
        boolean cut;
        int pay;
        int hours;
        int loads;
        int gates;
        final int[] gate;

        Way() {
            gate = new int[City.RINGS - 1];
        }

        boolean isBeatenBy(int otherPay, int otherHours) {
            return !found || otherPay < pay || otherPay == pay && otherHours < hours;
        }
    }

    /**
     * Finds BEST ways. Every gate costs some PAY and a ring none, so a BEST way goes through just
     * one gate between each two rings, straight from the one end's ring to the other's.
     */
    private static final class Finder {
        // PAY goes ahead of HOURS: a way has less than 1000 HOURS (5 gates of 99, 6 rings of 6).
        static final int PAY = 1000;
        static final int FAR = 1000000000;

        private City city;
        private int first;
        private int least;
        private final int[] price;
        private final int[] rest;
        private final int[] next;

        Finder(City inCity) {
            city = inCity;
            price = new int[City.GATES];
            rest = new int[City.GATES];
            next = new int[City.GATES];
        }

        /** Ends are told as in an order's row. */
        void seek(City inCity, int[] ends, Way way) {
            city = inCity;
            way.found = false;
            for (int i = 0; i < 2; i++) {
                // Whole goes ahead of CUT, which must be better to be BEST.
                boolean cut = i == 1;
                Thing thing = city.thing(ends[City.GOOD], cut);
                if (thing.loads > 0 && allBear(thing, ends[City.FROM_RING], ends[City.TO_RING])) {
                    priceGates(thing);
                    keepIfBest(thing, cut, costOf(ends), way);
                }
            }
        }

        private void keepIfBest(Thing thing, boolean cut, int cost, Way way) {
            int pay = cost / PAY * thing.loads;
            int hours = cost % PAY;
            if (cost >= FAR || !way.isBeatenBy(pay, hours)) {
                return;
            }
            way.found = true;
            way.cut = cut;
            way.pay = pay;
            way.hours = hours;
            way.loads = thing.loads;
            way.gates = 0;
            int g = first;
            while (g != NONE && way.gates < way.gate.length) {
                way.gate[way.gates] = g;
                way.gates++;
                g = next[g];
            }
        }

        private boolean allBear(Thing thing, int ring, int toRing) {
            for (int r = Math.min(ring, toRing); r <= Math.max(ring, toRing); r++) {
                if (!city.ringBears(thing, r)) {
                    return false;
                }
            }
            return true;
        }

        /** The least by the priced gates, PAY and HOURS in one; FAR if there is no way. */
        private int costOf(int[] ends) {
            int ring = ends[City.FROM_RING];
            int toRing = ends[City.TO_RING];
            int place = ends[City.FROM_PLACE];
            first = NONE;
            if (ring == toRing) {
                return apart(place, ends[City.TO_PLACE]);
            }
            // A gate is told by its outer ring.
            int inward = toRing > ring ? 1 : -1;
            int begin = inward > 0 ? ring : ring - 1;
            int end = inward > 0 ? toRing - 1 : toRing;
            restFromLast(end, ends[City.TO_PLACE]);
            for (int i = 1; i <= (end - begin) * inward; i++) {
                restFrom(end - i * inward, end - (i - 1) * inward);
            }
            first = firstBest(begin, place);
            return least;
        }

        private void priceGates(Thing thing) {
            for (int g = 0; g < city.gates; g++) {
                boolean open = city.letsThrough(thing, g);
                price[g] = open ? city.loadingPay(thing, g) * PAY + city.loadingHours(thing, g) : FAR;
            }
        }

        private void restFromLast(int ring, int toPlace) {
            for (int g = 0; g < city.gates; g++) {
                if (city.gate[g][City.RING] == ring) {
                    next[g] = NONE;
                    rest[g] = price[g] >= FAR ? FAR : price[g] + apart(city.gate[g][City.PLACE], toPlace);
                }
            }
        }

        private void restFrom(int ring, int nextRing) {
            for (int g = 0; g < city.gates; g++) {
                if (city.gate[g][City.RING] == ring) {
                    next[g] = firstBest(nextRing, city.gate[g][City.PLACE]);
                    rest[g] = price[g] >= FAR || least >= FAR ? FAR : price[g] + least;
                }
            }
        }

        /** The first gate from a ring by which the rest of the way, from a place, is least. */
        private int firstBest(int ring, int place) {
            int best = NONE;
            least = FAR;
            for (int g = 0; g < city.gates; g++) {
                if (city.gate[g][City.RING] == ring && rest[g] < FAR) {
                    int cost = apart(place, city.gate[g][City.PLACE]) + rest[g];
                    if (cost < least) {
                        best = g;
                        least = cost;
                    }
                }
            }
            return best;
        }
    }

    /** A DAY: its loads, carts and gates in the HOUR that comes next. */
    private static final class Day {
        static final int LOADS = 72;

        // A load's numbers, as load(l, what) asks for them; behind TOLD those that no call tells.
        static final int ORDER = 0;
        static final int RING = 1;
        static final int PLACE = 2;
        static final int STATE = 3;
        static final int LEFT = 4;
        static final int WAITED = 5;
        static final int CART = 6;
        static final int THERE_AT = 7;
        static final int TOLD = 8;
        static final int PASSED = 8;
        static final int CAME = 9;
        static final int LOAD_ROW = 10;

        static final int NOT_BEGUN = 0;
        static final int MUST_GO_ON = 1;
        static final int ON_CART = 2;
        static final int WAITS = 3;
        static final int LOADED_OVER = 4;
        static final int THERE = 5;

        int hour;
        int loads;
        final int[][] row;
        final int[] onCart;
        final int[] atGate;
        final int[] paid;
        final int[] toiled;
        private final int[] foremost;
        private City city;
        private Way[] ways;

        Day(City ofCity, Way[] ofOrders) {
            city = ofCity;
            ways = ofOrders;
            row = new int[LOAD_ROW][LOADS];
            onCart = new int[City.CARTS];
            atGate = new int[City.GATES];
            paid = new int[City.GATES];
            toiled = new int[City.GATES];
            foremost = new int[City.GATES];
        }

        void begin(City ofCity, Way[] ofOrders) {
            city = ofCity;
            ways = ofOrders;
            hour = 0;
            loads = 0;
            Arrays.fill(onCart, NOT_THERE);
            Arrays.fill(atGate, NOT_THERE);
            Arrays.fill(paid, 0);
            Arrays.fill(toiled, 0);
            for (int order = 0; order < city.orders; order++) {
                int count = ways[order].found ? ways[order].loads : 0;
                for (int i = 0; i < count && loads < LOADS; i++) {
                    addLoad(order);
                }
            }
        }

        private void addLoad(int order) {
            row[ORDER][loads] = order;
            row[RING][loads] = city.order[order][City.FROM_RING];
            row[PLACE][loads] = city.order[order][City.FROM_PLACE];
            row[STATE][loads] = NOT_BEGUN;
            row[LEFT][loads] = 0;
            row[WAITED][loads] = 0;
            row[CART][loads] = NOT_THERE;
            row[THERE_AT][loads] = NOT_THERE;
            row[PASSED][loads] = 0;
            row[CAME][loads] = 0;
            loads++;
        }

        void copy(Day other) {
            city = other.city;
            ways = other.ways;
            hour = other.hour;
            loads = other.loads;
            for (int what = 0; what < LOAD_ROW; what++) {
                System.arraycopy(other.row[what], 0, row[what], 0, loads);
            }
            System.arraycopy(other.onCart, 0, onCart, 0, City.CARTS);
            System.arraycopy(other.atGate, 0, atGate, 0, City.GATES);
            System.arraycopy(other.paid, 0, paid, 0, City.GATES);
            System.arraycopy(other.toiled, 0, toiled, 0, City.GATES);
        }

        int allWaits() {
            int sum = 0;
            for (int l = 0; l < loads; l++) {
                sum += row[WAITED][l];
            }
            return sum;
        }

        void goOn() {
            for (int l = 0; l < loads; l++) {
                advance(l);
            }
            serveGates();
            for (int l = 0; l < loads; l++) {
                setOut(l);
            }
            for (int l = 0; l < loads; l++) {
                if (row[STATE][l] == MUST_GO_ON || row[STATE][l] == WAITS) {
                    row[WAITED][l]++;
                }
            }
            hour++;
        }

        private Thing thingOf(int l) {
            int order = row[ORDER][l];
            return city.thing(city.order[order][City.GOOD], ways[order].cut);
        }

        /** The gate that a load goes to or is at; NONE if it has passed all of its way. */
        private int gateAhead(int l) {
            Way way = ways[row[ORDER][l]];
            int passed = row[PASSED][l];
            return passed < way.gates ? way.gate[passed] : NONE;
        }

        private int placeAhead(int l) {
            int g = gateAhead(l);
            return g == NONE ? city.order[row[ORDER][l]][City.TO_PLACE] : city.gate[g][City.PLACE];
        }

        private void advance(int l) {
            int state = row[STATE][l];
            if (state != ON_CART && state != LOADED_OVER) {
                return;
            }
            row[LEFT][l]--;
            if (row[LEFT][l] > 0) {
                return;
            }
            if (state == ON_CART) {
                leaveCart(l);
            } else {
                leaveGate(l);
            }
        }

        private void leaveCart(int l) {
            int c = row[CART][l];
            if (c >= 0 && c < City.CARTS) {
                onCart[c] = NOT_THERE;
            }
            row[CART][l] = NOT_THERE;
            row[PLACE][l] = placeAhead(l);
            arrive(l);
        }

        private void leaveGate(int l) {
            int g = gateAhead(l);
            if (g == NONE) {
                return;
            }
            int outer = city.gate[g][City.RING];
            atGate[g] = NOT_THERE;
            row[RING][l] = row[RING][l] == outer ? outer + 1 : outer;
            row[PASSED][l]++;
            row[STATE][l] = MUST_GO_ON;
            if (gateAhead(l) == NONE && row[PLACE][l] == placeAhead(l)) {
                arrive(l);
            }
        }

        /** It is at the place of its next gate, or of its end. */
        private void arrive(int l) {
            if (gateAhead(l) == NONE) {
                row[STATE][l] = THERE;
                row[THERE_AT][l] = hour;
            } else {
                row[STATE][l] = WAITS;
                row[CAME][l] = hour;
            }
        }

        private void serveGates() {
            Arrays.fill(foremost, NONE);
            for (int l = 0; l < loads; l++) {
                int g = row[STATE][l] == WAITS ? gateAhead(l) : NONE;
                if (g != NONE && (foremost[g] == NONE || row[CAME][l] < row[CAME][foremost[g]])) {
                    foremost[g] = l;
                }
            }
            for (int g = 0; g < city.gates; g++) {
                if (foremost[g] != NONE && atGate[g] == NOT_THERE) {
                    loadOver(foremost[g], g);
                }
            }
        }

        private void loadOver(int l, int g) {
            int hours = city.loadingHours(thingOf(l), g);
            row[STATE][l] = LOADED_OVER;
            row[LEFT][l] = hours;
            atGate[g] = l;
            paid[g] += city.gate[g][City.TOLL];
            toiled[g] += hours * city.gate[g][City.HANDS];
        }

        private void setOut(int l) {
            if (row[STATE][l] == NOT_BEGUN && city.order[row[ORDER][l]][City.HOUR] == hour) {
                row[STATE][l] = MUST_GO_ON;
            }
            if (row[STATE][l] != MUST_GO_ON) {
                return;
            }
            int far = apart(row[PLACE][l], placeAhead(l));
            if (far == 0) {
                arrive(l);
            } else {
                takeCart(l, far);
            }
        }

        private void takeCart(int l, int far) {
            Thing thing = thingOf(l);
            for (int c = 0; c < city.carts; c++) {
                if (onCart[c] == NOT_THERE && city.cartBears(thing, c, row[RING][l])) {
                    onCart[c] = l;
                    row[CART][l] = c;
                    row[STATE][l] = ON_CART;
                    row[LEFT][l] = far;
                    return;
                }
            }
        }
    }

    /** By which gates a stolen thing can have gone. */
    private static final class Thief {
        static final int SPOTS = City.RINGS * PLACES;
        static final int FAR = 100000;

        private final int[] since;
        private final int[] until;
        private final int[] through;

        Thief() {
            since = new int[SPOTS];
            until = new int[SPOTS];
            through = new int[City.GATES];
        }

        /** A gate that it fits has both its rings fit it, so the rings are not asked once more. */
        int gatesOf(City city, Thing thing, int spot, int hours) {
            for (int g = 0; g < city.gates; g++) {
                through[g] = city.letsThrough(thing, g) ? city.loadingHours(thing, g) : FAR;
            }
            Arrays.fill(since, FAR);
            if (spot >= 0 && spot < SPOTS) {
                since[spot] = 0;
            }
            spread(city, since);
            // Hours are the same either way, so those to ring 0 are those from it.
            Arrays.fill(until, FAR);
            for (int place = 0; place < PLACES; place++) {
                until[place] = 0;
            }
            spread(city, until);
            int bits = 0;
            for (int g = 0; g < city.gates; g++) {
                if (shortestBy(city, g) <= hours) {
                    bits |= 1 << g;
                }
            }
            return bits;
        }

        private int shortestBy(City city, int g) {
            int outside = spotOf(city, g);
            int inside = outside + PLACES;
            int outward = since[inside] + until[outside];
            int inward = since[outside] + until[inside];
            return Math.min(outward, inward) + through[g];
        }

        private static int spotOf(City city, int g) {
            return city.gate[g][City.RING] * PLACES + city.gate[g][City.PLACE];
        }

        private void spread(City city, int[] reach) {
            boolean nearer = true;
            for (int round = 0; nearer && round < SPOTS; round++) {
                nearer = false;
                for (int ring = 0; ring < city.rings; ring++) {
                    spreadRound(ring * PLACES, reach);
                }
                for (int g = 0; g < city.gates; g++) {
                    int outside = spotOf(city, g);
                    if (shorten(reach, outside, outside + PLACES, through[g])
                        || shorten(reach, outside + PLACES, outside, through[g])) {
                        nearer = true;
                    }
                }
            }
        }

        /** Twice round, either way, brings the least to every place of a ring. */
        private static void spreadRound(int base, int[] reach) {
            for (int i = 0; i < 2 * PLACES; i++) {
                int place = i % PLACES;
                int beside = (i + 1) % PLACES;
                shorten(reach, base + place, base + beside, 1);
                shorten(reach, base + PLACES - 1 - place, base + PLACES - 1 - beside, 1);
            }
        }

        private static boolean shorten(int[] reach, int from, int to, int far) {
            if (reach[from] + far >= reach[to]) {
                return false;
            }
            reach[to] = reach[from] + far;
            return true;
        }
    }

    /** The ACTS that can be undone, each as the gate that it changed was. */
    private static final class Acts {
        static final int KEPT = 10;
        static final int GATE = 0;
        static final int GATES_THEN = 1;
        static final int WIDE_THEN = 2;
        static final int HIGH_THEN = 3;
        static final int CLOSED_THEN = 4;
        static final int ACT_ROW = 5;

        int count;
        private final int[][] row;

        Acts() {
            row = new int[KEPT][ACT_ROW];
        }

        void keep(City city, int g) {
            if (count >= KEPT) {
                forgetOldest();
            }
            row[count][GATE] = g;
            row[count][GATES_THEN] = city.gates;
            row[count][WIDE_THEN] = city.gate[g][City.WIDE];
            row[count][HIGH_THEN] = city.gate[g][City.HIGH];
            row[count][CLOSED_THEN] = city.gate[g][City.CLOSED];
            count++;
        }

        private void forgetOldest() {
            for (int i = 1; i < KEPT; i++) {
                System.arraycopy(row[i], 0, row[i - 1], 0, ACT_ROW);
            }
            count = KEPT - 1;
        }

        void takeBack(City city) {
            if (count == 0) {
                return;
            }
            count--;
            int[] gateRow = city.gate[row[count][GATE]];
            city.gates = row[count][GATES_THEN];
            gateRow[City.WIDE] = row[count][WIDE_THEN];
            gateRow[City.HIGH] = row[count][HIGH_THEN];
            gateRow[City.CLOSED] = row[count][CLOSED_THEN];
        }
    }
}
