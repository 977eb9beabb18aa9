import java.util.ArrayList;
import java.util.Arrays;
import java.util.HashMap;
import java.util.List;
import java.util.Map;
import java.util.PriorityQueue;

/**
 * The document once more, written another way: slow, with the whole library, for random runs to be
 * compared with. Ways are looked for over all places, a theft hour by hour, a text by patterns.
 */
final class Model {
    static final class Refused extends RuntimeException {
        private static final long serialVersionUID = 1L;
        final int number;

        Refused(int number) {
            super(null, null, false, false);
            this.number = number;
        }
    }

    static final class Fault extends RuntimeException {
        private static final long serialVersionUID = 1L;
        final int number;
        final int place;

        Fault(int number, int place) {
            super(null, null, false, false);
            this.number = number;
            this.place = place;
        }
    }

    record Token(char kind, String text, int place) {
    }

    record Gate(int ring, int place, int wide, int high, int hands, int toll, boolean closed) {
        Gate larger(int w, int h) {
            return new Gate(ring, place, Math.max(w, wide), Math.max(h, high), hands, toll, closed);
        }

        Gate shut() {
            return new Gate(ring, place, wide, high, hands, toll, true);
        }
    }

    record Cart(int ring, int bears) {
    }

    record Good(int length, int wide, int high, int weighs, int parts, boolean tilts, boolean holy) {
        boolean canCut() {
            return parts > 0 && !holy;
        }

        Good cut() {
            return new Good(up(length, parts), wide, high, up(weighs, parts), parts, tilts, holy);
        }

        List<int[]> poses() {
            List<int[]> all = new ArrayList<>();
            all.add(new int[] {length, wide, high});
            all.add(holy ? null : new int[] {length, high, wide});
            all.add(tilts ? new int[] {high, wide, length} : null);
            return all;
        }
    }

    record Order(int good, int ring, int place, int toRing, int toPlace, int hour) {
    }

    static final class City {
        List<Integer> rings = new ArrayList<>();
        List<Gate> gates = new ArrayList<>();
        List<Cart> carts = new ArrayList<>();
        Map<Integer, int[]> stores = new HashMap<>();
        List<Good> goods = new ArrayList<>();
        List<Order> orders = new ArrayList<>();
    }

    record Way(int pay, int hours, boolean cut, List<Integer> gates) {
    }

    static final class Load implements Cloneable {
        int number;
        int order;
        int ring;
        int place;
        int state;
        int left;
        int waited;
        int cart = -2;
        int there = -2;
        int came;
        Good thing;
        List<Integer> gates;

        Load copy() {
            try {
                Load l = (Load) clone();
                l.gates = new ArrayList<>(gates);
                return l;
            } catch (CloneNotSupportedException e) {
                throw new IllegalStateException(e);
            }
        }
    }

    static final class Day {
        int hour;
        List<Load> loads = new ArrayList<>();
        int[] tolls = new int[11];
        int[] worked = new int[11];

        Day copy() {
            Day d = new Day();
            d.hour = hour;
            for (Load l : loads) {
                d.loads.add(l.copy());
            }
            d.tolls = tolls.clone();
            d.worked = worked.clone();
            return d;
        }
    }

    private byte[] tape = new byte[0];
    private City city = new City();
    private Day day = new Day();
    private final List<Day> marks = new ArrayList<>();
    private final List<List<Gate>> past = new ArrayList<>();
    private int fault;
    private int place;
    private int trouble;

    static int up(int n, int by) {
        return (int) Math.ceil((double) n / by);
    }

    // -- calls

    /** One call by its name; a boolean counts 1 or 0; the exception of led is Integer.MIN_VALUE. */
    int call(String name, int... a) {
        switch (name) {
            case "feed": return feed(a);
            case "fault": return fault;
            case "where": return trouble == 4 ? place : -1;
            case "trouble": return trouble;
            case "size": return size(a[0]);
            case "led": return led(a[0]);
            default: break;
        }
        try {
            int answer = mayRefuse(name, a);
            trouble = 0;
            return answer;
        } catch (Refused r) {
            trouble = r.number;
            boolean truth = name.equals("anew") || name.equals("back") || name.equals("widen")
                || name.equals("close") || name.equals("undo");
            return truth ? 0 : name.equals("saves") ? -10000 : -1;
        }
    }

    private int mayRefuse(String name, int[] a) {
        switch (name) {
            case "city": return tell(a[0]);
            case "gate": return gate(a);
            case "fits": return fits(a);
            case "bars": return bars(a);
            case "deepest": return deepest(good(a[0]));
            case "deepestCut": return deepest(cut(a[0]));
            case "pay": return askWay(a) == null ? -2 : askWay(a).pay;
            case "hours": return askWay(a) == null ? -2 : askWay(a).hours;
            case "payOf": return order(a[0]) == null ? -2 : order(a[0]).pay;
            case "hoursOf": return order(a[0]) == null ? -2 : order(a[0]).hours;
            case "loadsOf": return loadsOf(a[0]);
            case "gateOf": return gateOf(a);
            case "all": needCity(); return all(city.gates);
            default: return dayCalls(name, a);
        }
    }

    private int dayCalls(String name, int[] a) {
        switch (name) {
            case "pass": return pass(a[0]);
            case "anew": needCity(); begin(); return 1;
            case "loads": needCity(); return day.loads.size();
            case "load": return load(a);
            case "cart": need(in(a[0], city.carts.size()), 1); return holder(l -> l.cart == a[0]);
            case "busy":
                need(in(a[0], city.gates.size()), 1);
                return holder(l -> l.state == 4 && l.gates.get(0) == a[0]);
            case "tolls": need(in(a[0], city.gates.size()), 1); return day.tolls[a[0]];
            case "worked": need(in(a[0], city.gates.size()), 1); return day.worked[a[0]];
            case "waited": needCity(); return day.loads.stream().mapToInt(l -> l.waited).sum();
            case "mark":
                needCity();
                need(marks.size() < 3, 3);
                marks.add(day.copy());
                return marks.size() - 1;
            case "back": need(in(a[0], marks.size()), 1); day = marks.get(a[0]).copy(); return 1;
            default: return otherCalls(name, a);
        }
    }

    private int otherCalls(String name, int[] a) {
        switch (name) {
            case "saves":
                need(in(a[0], city.gates.size()), 1);
                need(size99(a[1], a[2]), 2);
                return saves(a[0], a[1], a[2]);
            case "breach": return breach(a);
            case "ram":
                needCity();
                need(size99(a), 2);
                return ram(city.gates, a[0], a[1], a[2]);
            case "ramBy":
                need(in(a[0], city.gates.size()), 1);
                need(size99(a[1], a[2], a[3], a[4]), 2);
                return ram(changed(a[0], city.gates.get(a[0]).larger(a[4], 1)), a[1], a[2], a[3]);
            case "hold": need(in(a[0], city.rings.size()), 1); return hold(a[0]);
            case "stand": return stand();
            case "theft": return theft(a);
            case "widen": return widen(a);
            case "dig": return dig(a);
            case "close":
                need(in(a[0], city.gates.size()), 1);
                need(!city.gates.get(a[0]).closed, 5);
                act(changed(a[0], city.gates.get(a[0]).shut()));
                return 1;
            case "undo":
                need(!past.isEmpty(), 6);
                city.gates = past.remove(past.size() - 1);
                begin();
                marks.clear();
                return 1;
            default: throw new IllegalArgumentException(name);
        }
    }

    private static void need(boolean truth, int number) {
        if (!truth) {
            throw new Refused(number);
        }
    }

    private void needCity() {
        need(!city.rings.isEmpty(), 1);
    }

    private static boolean in(int i, int count) {
        return 0 <= i && i < count;
    }

    private static boolean size99(int... sizes) {
        return Arrays.stream(sizes).allMatch(s -> 1 <= s && s <= 99);
    }

    private int feed(int[] a) {
        if (tape.length > 880) {
            return -1;
        }
        java.nio.ByteBuffer b = java.nio.ByteBuffer.allocate(tape.length + 20).put(tape);
        for (int n : a) {
            b.putInt(n);
        }
        tape = b.array();
        return tape.length;
    }

    private int size(int what) {
        int[] sizes = {city.rings.size(), city.gates.size(), city.carts.size(), city.goods.size(),
            city.orders.size(), day.hour, marks.size(), past.size(), tape.length};
        return in(what, 9) ? sizes[what] : -1;
    }

    private int led(int i) {
        List<Integer> without = new ArrayList<>();
        for (int o = 0; o < city.orders.size(); o++) {
            if (order(o) == null) {
                without.add(o);
            }
        }
        return in(i, without.size()) ? without.get(i) : Integer.MIN_VALUE;
    }

    // -- the text

    private int tell(int n) {
        need(n >= 0 && n <= tape.length, 2);
        byte[] text = Arrays.copyOf(tape, n);
        tape = new byte[0];
        try {
            City read = new Text(text).read();
            city = read;
        } catch (Fault f) {
            fault = f.number;
            place = f.place;
            throw new Refused(4);
        }
        fault = 0;
        past.clear();
        marks.clear();
        begin();
        return city.rings.size();
    }

    private static final class Text {
        private static final String RESERVED = " rings gate cart store good order parts tilts holy ";
        private final List<Token> tokens = new ArrayList<>();
        private final Map<String, Integer> names = new HashMap<>();
        private final City city = new City();
        private int i = 0;

        Text(byte[] bytes) {
            String s = new String(bytes, java.nio.charset.StandardCharsets.ISO_8859_1);
            java.util.regex.Matcher m = java.util.regex.Pattern
                .compile(" +|([a-z]+)|([0-9]+)|([;,])|.", java.util.regex.Pattern.DOTALL).matcher(s);
            while (m.find()) {
                if (m.group(1) != null) {
                    add(m.group().length() <= 8 ? 'w' : '?', m);
                } else if (m.group(2) != null) {
                    add(m.group().length() <= 3 ? 'n' : '?', m);
                } else if (m.group(3) != null) {
                    add(m.group().charAt(0), m);
                } else if (!m.group().startsWith(" ")) {
                    add('?', m);
                }
            }
            tokens.add(new Token('$', "", s.length()));
        }

        private void add(char kind, java.util.regex.Matcher m) {
            tokens.add(new Token(kind, m.group(), m.start()));
        }

        private Token peek() {
            return tokens.get(i);
        }

        private void check(boolean truth, int number) {
            if (!truth) {
                throw new Fault(number, peek().place);
            }
        }

        City read() {
            while (true) {
                line();
                if (peek().kind == '$') {
                    check(!city.rings.isEmpty(), 6);
                    return city;
                }
                check(peek().kind == ';', 1);
                i++;
            }
        }

        private void line() {
            check(peek().kind == 'w', 1);
            String w = peek().text;
            check(List.of("rings", "gate", "cart", "store", "good", "order").contains(w), 1);
            check(!w.equals("rings") || city.rings.isEmpty(), 3);
            check(!w.equals("gate") || city.gates.size() < 11, 5);
            check(!w.equals("cart") || city.carts.size() < 8, 5);
            check(!w.equals("good") || city.goods.size() < 8, 5);
            check(!w.equals("order") || city.orders.size() < 8, 5);
            check(w.equals("rings") || w.equals("good") || !city.rings.isEmpty(), 6);
            i++;
            int top = city.rings.size() - 1;
            switch (w) {
                case "rings" -> rings();
                case "gate" -> {
                    List<Integer> v = pattern("N in 0.." + (top - 1)
                        + " at 0..11 wide 1..99 high 1..99 hands 1..9 toll 0..99", -1);
                    city.gates.add(new Gate(v.get(0), v.get(1), v.get(2), v.get(3), v.get(4), v.get(5), false));
                }
                case "cart" -> {
                    List<Integer> v = pattern("N in 0.." + top + " bears 1..99", -1);
                    city.carts.add(new Cart(v.get(0), v.get(1)));
                }
                case "store" -> store(top);
                case "good" -> good();
                default -> {
                    List<Integer> v = pattern("N of G from 0.." + top + " , 0..11 to 0.." + top
                        + " , 0..11 hour 0..23", -1);
                    city.orders.add(new Order(v.get(0), v.get(1), v.get(2), v.get(3), v.get(4), v.get(5)));
                }
            }
        }

        private void rings() {
            List<Integer> widths = new ArrayList<>();
            while (true) {
                check(peek().kind == 'n', 1);
                check(widths.size() < 6 || value() < 0, 5);
                check(value() >= 1 && value() <= (widths.isEmpty() ? 99 : widths.get(widths.size() - 1)), 4);
                widths.add(value());
                i++;
                if (peek().kind != ',') {
                    check(widths.size() >= 2, 1);
                    city.rings = widths;
                    return;
                }
                i++;
            }
        }

        private void store(int top) {
            check(peek().kind == 'n', 1);
            check(!city.stores.containsKey(value()), 3);
            List<Integer> v = pattern("0.." + top + " bread 0..999 mouths 0..99", -1);
            city.stores.put(v.get(0), new int[] {v.get(1), v.get(2)});
        }

        private void good() {
            List<Integer> v = pattern("N long 1..99 wide 1..99 high 1..99 weighs 1..99", city.goods.size());
            int parts = 0;
            if (peek().text.equals("parts")) {
                parts = pattern("parts 2..9", -1).get(0);
            }
            boolean tilts = peek().text.equals("tilts");
            i += tilts ? 1 : 0;
            boolean holy = peek().text.equals("holy");
            i += holy ? 1 : 0;
            city.goods.add(new Good(v.get(0), v.get(1), v.get(2), v.get(3), parts, tilts, holy));
        }

        private int value() {
            return Integer.parseInt(peek().text);
        }

        private List<Integer> pattern(String pattern, int good) {
            List<Integer> values = new ArrayList<>();
            for (String p : pattern.split(" ")) {
                if (p.equals("N") || p.equals("G")) {
                    check(peek().kind == 'w' && !RESERVED.contains(" " + peek().text + " "), 1);
                    if (p.equals("N")) {
                        check(!names.containsKey(peek().text), 3);
                        names.put(peek().text, good);
                    } else {
                        check(names.getOrDefault(peek().text, -1) >= 0, 2);
                        values.add(names.get(peek().text));
                    }
                } else if (p.contains("..")) {
                    check(peek().kind == 'n', 1);
                    String[] ends = p.split("\\.\\.");
                    check(value() >= Integer.parseInt(ends[0]) && value() <= Integer.parseInt(ends[1]), 4);
                    values.add(value());
                } else {
                    check(peek().kind != '?' && peek().text.equals(p), 1);
                }
                i++;
            }
            return values;
        }
    }

    // -- what fits

    private Good good(int g) {
        need(in(g, city.goods.size()), 1);
        return city.goods.get(g);
    }

    private Good cut(int g) {
        need(good(g).canCut(), 5);
        return good(g).cut();
    }

    private int gate(int[] a) {
        need(in(a[0], city.gates.size()) && in(a[1], 7), 1);
        Gate g = city.gates.get(a[0]);
        return new int[] {g.ring, g.place, g.wide, g.high, g.hands, g.toll, g.closed ? 1 : 0}[a[1]];
    }

    private int fits(int[] a) {
        Good good = good(a[0]);
        need(in(a[2], a[1] != 0 ? city.gates.size() : city.rings.size()) && in(a[3], 3), 1);
        int[] pose = good.poses().get(a[3]);
        need(pose != null, 5);
        if (a[1] == 0) {
            return pose[1] <= city.rings.get(a[2]) ? 1 : 0;
        }
        return obstacle(pose, city.gates.get(a[2])) == 0 ? 1 : 0;
    }

    private int obstacle(int[] pose, Gate g) {
        int outer = city.rings.get(g.ring);
        int inner = city.rings.get(g.ring + 1);
        int both = pose[0] + pose[1];
        boolean[] met = {outer < pose[1], g.wide < pose[1], g.high < pose[2], inner < pose[1],
            both > outer + g.wide, both > inner + g.wide};
        for (int i = 0; i < met.length; i++) {
            if (met[i]) {
                return i + 1;
            }
        }
        return 0;
    }

    private int bar(Good thing, Gate g) {
        return thing.poses().stream().filter(p -> p != null).mapToInt(p -> obstacle(p, g)).min().getAsInt();
    }

    private int bars(int[] a) {
        Good good = good(a[0]);
        need(in(a[1], city.gates.size()), 1);
        need(a[2] == 0 || good.canCut(), 5);
        return bar(a[2] == 0 ? good : good.cut(), city.gates.get(a[1]));
    }

    private boolean passes(Good thing, Gate g) {
        return !g.closed && bar(thing, g) == 0;
    }

    private boolean bears(Good thing, int ring) {
        return thing.poses().stream().anyMatch(p -> p != null && p[1] <= city.rings.get(ring))
            && city.carts.stream().anyMatch(c -> c.ring == ring && c.bears >= thing.weighs);
    }

    private int deepest(Good thing) {
        boolean[] come = new boolean[city.rings.size()];
        come[0] = bears(thing, 0);
        for (int round = 0; round < come.length; round++) {
            for (Gate g : city.gates) {
                if (come[g.ring] && passes(thing, g) && bears(thing, g.ring + 1)) {
                    come[g.ring + 1] = true;
                }
            }
        }
        int deep = -2;
        for (int r = 0; r < come.length; r++) {
            deep = come[r] ? r : deep;
        }
        return deep;
    }

    // -- ways

    private static int hoursAt(Good thing, Gate g) {
        return up(thing.weighs, g.hands);
    }

    /** PAY * 10000 + HOURS from each spot (ring * 12 + place) to one, over all places and gates. */
    private long[] costs(Good thing, List<Gate> gates, int to) {
        long[] cost = new long[city.rings.size() * 12];
        Arrays.fill(cost, Long.MAX_VALUE);
        if (!bears(thing, to / 12)) {
            return cost;
        }
        PriorityQueue<long[]> queue = new PriorityQueue<>((p, q) -> Long.compare(p[0], q[0]));
        queue.add(new long[] {0, to});
        while (!queue.isEmpty()) {
            long[] top = queue.poll();
            int at = (int) top[1];
            if (top[0] >= cost[at]) {
                continue;
            }
            cost[at] = top[0];
            int ring = at / 12;
            queue.add(new long[] {top[0] + 1, ring * 12 + (at + 1) % 12});
            queue.add(new long[] {top[0] + 1, ring * 12 + (at + 11) % 12});
            for (Gate g : gates) {
                int beyond = beyond(g, at);
                if (beyond >= 0 && passes(thing, g) && bears(thing, beyond / 12)) {
                    queue.add(new long[] {top[0] + price(thing, g), beyond});
                }
            }
        }
        return cost;
    }

    private static int beyond(Gate g, int spot) {
        if (spot == g.ring * 12 + g.place) {
            return spot + 12;
        }
        return spot == g.ring * 12 + 12 + g.place ? spot - 12 : -1;
    }

    private static long price(Good thing, Gate g) {
        int h = hoursAt(thing, g);
        return (g.toll + h * g.hands) * 10000L + h;
    }

    private static int apart(int p, int q) {
        return Math.min(Math.floorMod(p - q, 12), Math.floorMod(q - p, 12));
    }

    private Way wayOf(Good thing, boolean isCut, List<Gate> gates, int from, int to) {
        long[] cost = costs(thing, gates, to);
        if (cost[from] == Long.MAX_VALUE || !bears(thing, from / 12)) {
            return null;
        }
        List<Integer> by = new ArrayList<>();
        int at = from;
        while (cost[at] >= 10000) {
            int here = at;
            for (int g = 0; g < gates.size(); g++) {
                Gate gate = gates.get(g);
                int side = here / 12 == gate.ring ? here / 12 * 12 + gate.place
                    : here / 12 == gate.ring + 1 ? here / 12 * 12 + gate.place : -1;
                if (side >= 0 && passes(thing, gate)) {
                    int other = beyond(gate, side);
                    if (cost[other] != Long.MAX_VALUE && bears(thing, other / 12)
                        && apart(here % 12, gate.place) + price(thing, gate) + cost[other] == cost[here]) {
                        by.add(g);
                        at = other;
                        break;
                    }
                }
            }
        }
        int times = isCut ? thing.parts : 1;
        return new Way((int) (cost[from] / 10000) * times, (int) (cost[from] % 10000), isCut, by);
    }

    private Way best(List<Gate> gates, int good, int from, int to) {
        Good whole = city.goods.get(good);
        Way one = wayOf(whole, false, gates, from, to);
        Way other = whole.canCut() ? wayOf(whole.cut(), true, gates, from, to) : null;
        if (one == null || other == null) {
            return one == null ? other : one;
        }
        boolean cutWins = other.pay < one.pay || other.pay == one.pay && other.hours < one.hours;
        return cutWins ? other : one;
    }

    private Way askWay(int[] a) {
        good(a[0]);
        need(in(a[1], city.rings.size()) && in(a[2], 12) && in(a[3], city.rings.size()) && in(a[4], 12), 1);
        return best(city.gates, a[0], a[1] * 12 + a[2], a[3] * 12 + a[4]);
    }

    private Way orderWay(List<Gate> gates, Order o) {
        return best(gates, o.good, o.ring * 12 + o.place, o.toRing * 12 + o.toPlace);
    }

    private Way order(int o) {
        need(in(o, city.orders.size()), 1);
        return orderWay(city.gates, city.orders.get(o));
    }

    private int loadsOf(int o) {
        need(order(o) != null, 6);
        return order(o).cut ? city.goods.get(city.orders.get(o).good).parts : 1;
    }

    private int gateOf(int[] a) {
        Way way = order(a[0]);
        need(a[1] >= 0, 1);
        need(way != null, 6);
        need(a[1] < way.gates.size(), 1);
        return way.gates.get(a[1]);
    }

    private int all(List<Gate> gates) {
        return city.orders.stream().map(o -> orderWay(gates, o)).mapToInt(w -> w == null ? 9999 : w.pay).sum();
    }

    // -- a day

    private void begin() {
        day = new Day();
        for (int o = 0; o < city.orders.size(); o++) {
            Way way = order(o);
            for (int i = 0; way != null && i < loadsOf(o); i++) {
                Load l = new Load();
                Order order = city.orders.get(o);
                Good good = city.goods.get(order.good);
                l.number = day.loads.size();
                l.order = o;
                l.ring = order.ring;
                l.place = order.place;
                l.thing = way.cut ? good.cut() : good;
                l.gates = new ArrayList<>(way.gates);
                day.loads.add(l);
            }
        }
    }

    private int pass(int n) {
        needCity();
        need(n >= 1 && n <= 60, 2);
        need(day.hour + n <= 120, 3);
        for (int i = 0; i < n; i++) {
            goOn();
        }
        return day.hour;
    }

    private int target(Load l) {
        return l.gates.isEmpty() ? city.orders.get(l.order).toPlace : city.gates.get(l.gates.get(0)).place;
    }

    private void come(Load l) {
        l.state = l.gates.isEmpty() ? 5 : 3;
        l.there = l.gates.isEmpty() ? day.hour : -2;
        l.came = day.hour;
    }

    private void goOn() {
        for (Load l : day.loads) {
            if (l.state == 2 && --l.left == 0) {
                l.cart = -2;
                l.place = target(l);
                come(l);
            } else if (l.state == 4 && --l.left == 0) {
                Gate g = city.gates.get(l.gates.remove(0));
                l.ring = 2 * g.ring + 1 - l.ring;
                l.state = 1;
                if (l.gates.isEmpty() && l.place == target(l)) {
                    come(l);
                }
            }
        }
        for (int g = 0; g < city.gates.size(); g++) {
            int gate = g;
            if (holder(l -> l.state == 4 && l.gates.get(0) == gate) == -2) {
                day.loads.stream().filter(l -> l.state == 3 && l.gates.get(0) == gate)
                    .min((p, q) -> p.came != q.came ? p.came - q.came : p.number - q.number)
                    .ifPresent(l -> {
                        l.state = 4;
                        l.left = hoursAt(l.thing, city.gates.get(gate));
                        day.tolls[gate] += city.gates.get(gate).toll;
                        day.worked[gate] += l.left * city.gates.get(gate).hands;
                    });
            }
        }
        for (Load l : day.loads) {
            if (l.state == 0 && city.orders.get(l.order).hour == day.hour) {
                l.state = 1;
            }
        }
        for (Load l : day.loads) {
            if (l.state == 1 && l.place == target(l)) {
                come(l);
            } else if (l.state == 1) {
                for (int c = 0; c < city.carts.size() && l.cart == -2; c++) {
                    int cart = c;
                    boolean free = holder(k -> k.cart == cart) == -2;
                    if (free && city.carts.get(c).ring == l.ring && city.carts.get(c).bears >= l.thing.weighs) {
                        l.cart = c;
                        l.state = 2;
                        l.left = apart(l.place, target(l));
                    }
                }
            }
        }
        for (Load l : day.loads) {
            l.waited += l.state == 1 || l.state == 3 ? 1 : 0;
        }
        day.hour++;
    }

    private int load(int[] a) {
        need(in(a[0], day.loads.size()) && in(a[1], 8), 1);
        Load l = day.loads.get(a[0]);
        return new int[] {l.order, l.ring, l.place, l.state, l.left, l.waited, l.cart, l.there}[a[1]];
    }

    private int holder(java.util.function.Predicate<Load> which) {
        return day.loads.stream().filter(which).mapToInt(l -> l.number).findFirst().orElse(-2);
    }

    // -- breaches, rams, stores, thefts

    private List<Gate> changed(int g, Gate to) {
        List<Gate> gates = new ArrayList<>(city.gates);
        gates.set(g, to);
        return gates;
    }

    private int saves(int g, int wide, int high) {
        return all(city.gates) - all(changed(g, city.gates.get(g).larger(wide, high)));
    }

    private int breach(int[] a) {
        needCity();
        need(size99(a), 2);
        need(!city.gates.isEmpty(), 6);
        int best = 0;
        for (int g = 0; g < city.gates.size(); g++) {
            best = saves(g, a[0], a[1]) > saves(best, a[0], a[1]) ? g : best;
        }
        return best;
    }

    private int ram(List<Gate> gates, int length, int wide, int high) {
        int deep = wide > city.rings.get(0) ? -2 : 0;
        for (int round = 0; deep >= 0 && round < 6; round++) {
            for (Gate g : gates) {
                if (g.ring == deep && !g.closed && obstacle(new int[] {length, wide, high}, g) == 0) {
                    deep++;
                }
            }
        }
        return deep;
    }

    private int hold(int ring) {
        int mouths = city.stores.values().stream().mapToInt(s -> s[1]).sum();
        int bread = 0;
        for (int r : city.stores.keySet()) {
            bread += r >= ring ? city.stores.get(r)[0] : 0;
        }
        return mouths == 0 ? 999 : bread / mouths;
    }

    private int stand() {
        needCity();
        int best = city.rings.size() - 1;
        for (int r = best; r >= 0; r--) {
            best = hold(r) > hold(best) ? r : best;
        }
        return best;
    }

    private int theft(int[] a) {
        Good good = good(a[0]);
        need(in(a[1], city.rings.size()) && in(a[2], 12), 1);
        need(in(a[3], 100), 2);
        need(a[4] == 0 || good.canCut(), 5);
        Good thing = a[4] == 0 ? good : good.cut();
        int hours = a[3];
        int spots = city.rings.size() * 12;
        // by[t][s]: it can be at s in hour t; can[t][s]: from there it can be at ring 0 in the hours left.
        boolean[][] by = new boolean[hours + 1][spots];
        by[0][a[1] * 12 + a[2]] = true;
        for (int t = 0; t <= hours; t++) {
            for (int s = 0; s < spots; s++) {
                if (by[t][s]) {
                    for (int[] edge : edges(thing, s)) {
                        if (t + edge[1] <= hours) {
                            by[t + edge[1]][edge[0]] = true;
                        }
                    }
                }
            }
        }
        boolean[][] can = new boolean[hours + 1][spots];
        for (int t = hours; t >= 0; t--) {
            for (int s = 0; s < spots; s++) {
                can[t][s] = s < 12;
                for (int[] edge : edges(thing, s)) {
                    can[t][s] |= t + edge[1] <= hours && can[t + edge[1]][edge[0]];
                }
            }
        }
        int bits = 0;
        for (int t = 0; t <= hours; t++) {
            for (int s = 0; s < spots; s++) {
                for (int[] edge : edges(thing, s)) {
                    if (by[t][s] && edge[2] >= 0 && t + edge[1] <= hours && can[t + edge[1]][edge[0]]) {
                        bits |= 1 << edge[2];
                    }
                }
            }
        }
        return bits;
    }

    private List<int[]> edges(Good thing, int s) {
        List<int[]> edges = new ArrayList<>();
        boolean fits = thing.poses().stream().anyMatch(p -> p != null && p[1] <= city.rings.get(s / 12));
        if (!fits) {
            return edges;
        }
        edges.add(new int[] {s / 12 * 12 + (s + 1) % 12, 1, -1});
        edges.add(new int[] {s / 12 * 12 + (s + 11) % 12, 1, -1});
        for (int g = 0; g < city.gates.size(); g++) {
            Gate gate = city.gates.get(g);
            if (beyond(gate, s) >= 0 && passes(thing, gate)) {
                edges.add(new int[] {beyond(gate, s), hoursAt(thing, gate), g});
            }
        }
        return edges;
    }

    // -- acts

    private void act(List<Gate> gates) {
        past.add(city.gates);
        if (past.size() > 10) {
            past.remove(0);
        }
        city.gates = gates;
        begin();
        marks.clear();
    }

    private int widen(int[] a) {
        need(in(a[0], city.gates.size()), 1);
        need(size99(a[1], a[2]), 2);
        Gate g = city.gates.get(a[0]);
        need(!g.closed && !g.larger(a[1], a[2]).equals(g), 5);
        act(changed(a[0], g.larger(a[1], a[2])));
        return 1;
    }

    private int dig(int[] a) {
        need(in(a[0], city.rings.size() - 1) && in(a[1], 12), 1);
        need(size99(a[2], a[3]) && a[4] >= 1 && a[4] <= 9 && in(a[5], 100), 2);
        need(city.gates.size() < 11, 3);
        List<Gate> gates = new ArrayList<>(city.gates);
        gates.add(new Gate(a[0], a[1], a[2], a[3], a[4], a[5], false));
        act(gates);
        return gates.size() - 1;
    }
}
