import java.util.NoSuchElementException;
import java.util.Random;

/** Random runs of calls, every answer compared with the Model's; the seeds are fixed. */
public final class ModelTest {
    private static final Check CHECK = new Check("ModelTest");
    private static final int RUNS = 1200;
    private static final int CALLS = 400;

    private static final String[] NAMES = {"gate", "fits", "bars", "deepest", "deepestCut", "pay", "hours",
        "payOf", "hoursOf", "loadsOf", "gateOf", "all", "pass", "anew", "loads", "load", "cart", "busy",
        "tolls", "worked", "waited", "mark", "back", "saves", "breach", "ram", "ramBy", "hold", "stand",
        "theft", "widen", "dig", "close", "undo", "led", "size", "trouble", "fault", "where"};

    public static void main(String[] args) {
        int runs = args.length > 0 ? Integer.parseInt(args[0]) : RUNS;
        for (int run = 0; run < runs; run++) {
            new ModelTest(run).compareRun();
        }
        CHECK.end();
    }

    private final int run;
    private final Random random;
    private final NarrowRings x = new NarrowRings();
    private final Model model = new Model();
    private int calls = 0;

    private ModelTest(int run) {
        this.run = run;
        this.random = new Random(run);
    }

    private void compareRun() {
        if (random.nextInt(8) == 0) {
            someCalls(10);
        }
        for (int i = 0; i < 3; i++) {
            tellCity();
            someCalls((i + 1) * CALLS / 3);
        }
    }

    private void someCalls(int upTo) {
        while (calls < upTo) {
            String name = NAMES[random.nextInt(NAMES.length)];
            boolean act = name.equals("widen") || name.equals("dig") || name.equals("close") || name.equals("undo");
            if (act && random.nextInt(3) > 0) {
                name = "pass";
            }
            both(name, arguments(name));
            if (name.equals("pass") || name.equals("back") || name.equals("anew")) {
                wholeDay();
            }
        }
    }

    private void wholeDay() {
        int before = calls;
        int loads = Math.max(0, both("loads"));
        for (int i = 0; i < 8 * loads; i++) {
            both("load", i / 8, i % 8);
        }
        for (int g = 0; g < x.size(1); g++) {
            both("busy", g);
            both("worked", g);
            both("tolls", g);
        }
        for (int c = 0; c < x.size(2); c++) {
            both("cart", c);
        }
        both("waited");
        calls = before;
    }

    private int both(String name, int... a) {
        calls += name.equals("feed") ? 0 : 1;
        int want = model.call(name, a);
        int got = call(name, a);
        if (got != want) {
            CHECK.due("run " + run + " call " + calls + ": " + name + java.util.Arrays.toString(a), got, want);
        }
        CHECK.due("trouble of run " + run + " call " + calls + ": " + name, x.trouble(), model.call("trouble"));
        return want;
    }

    // -- arguments

    private int upTo(int count) {
        if (random.nextInt(25) == 0) {
            int[] odd = {-1, count, -2, Integer.MIN_VALUE, Integer.MAX_VALUE, 99, 100, 0};
            return odd[random.nextInt(odd.length)];
        }
        return count <= 0 ? 0 : random.nextInt(count);
    }

    private int measure() {
        return 1 + upTo(random.nextInt(4) == 0 ? 99 : 25);
    }

    private int ring() {
        return upTo(x.size(0));
    }

    private int gate() {
        return upTo(x.size(1));
    }

    private int good() {
        return upTo(x.size(3));
    }

    private int truth() {
        return random.nextInt(2);
    }

    private int[] arguments(String name) {
        switch (name) {
            case "gate": return new int[] {gate(), upTo(7)};
            case "fits": {
                int isGate = truth();
                return new int[] {good(), isGate, isGate == 1 ? gate() : ring(), upTo(3)};
            }
            case "bars": return new int[] {good(), gate(), truth()};
            case "deepest": case "deepestCut": return new int[] {good()};
            case "pay": case "hours": return new int[] {good(), ring(), upTo(12), ring(), upTo(12)};
            case "payOf": case "hoursOf": case "loadsOf": return new int[] {upTo(x.size(4))};
            case "gateOf": return new int[] {upTo(x.size(4)), random.nextInt(8) - 1};
            case "pass": return new int[] {1 + upTo(random.nextInt(5) == 0 ? 60 : 8)};
            case "load": return new int[] {upTo(12), upTo(8)};
            case "cart": return new int[] {upTo(x.size(2))};
            case "busy": case "tolls": case "worked": return new int[] {gate()};
            case "back": return new int[] {upTo(3)};
            case "saves": return new int[] {gate(), measure(), measure()};
            case "breach": return new int[] {measure(), measure()};
            case "ram": return new int[] {measure(), measure(), measure()};
            case "ramBy": return new int[] {gate(), measure(), measure(), measure(), measure()};
            case "hold": return new int[] {ring()};
            case "theft": return new int[] {good(), ring(), upTo(12), upTo(60), truth()};
            case "widen": return new int[] {gate(), measure(), measure()};
            case "dig": return new int[] {ring(), upTo(12), measure(), measure(), 1 + upTo(9), upTo(20)};
            case "close": return new int[] {random.nextInt(3) == 0 ? gate() : -1};
            case "led": return new int[] {upTo(3)};
            case "size": return new int[] {upTo(9)};
            default: return new int[0];
        }
    }

    private int call(String name, int[] a) {
        switch (name) {
            case "feed": return x.feed(a[0], a[1], a[2], a[3], a[4]);
            case "city": return x.city(a[0]);
            case "fault": return x.fault();
            case "where": return x.where();
            case "gate": return x.gate(a[0], a[1]);
            case "fits": return x.fits(a[0], a[1] != 0, a[2], a[3]);
            case "bars": return x.bars(a[0], a[1], a[2] != 0);
            case "deepest": return x.deepest(a[0]);
            case "deepestCut": return x.deepestCut(a[0]);
            case "pay": return x.pay(a[0], a[1], a[2], a[3], a[4]);
            case "hours": return x.hours(a[0], a[1], a[2], a[3], a[4]);
            case "payOf": return x.payOf(a[0]);
            case "hoursOf": return x.hoursOf(a[0]);
            case "loadsOf": return x.loadsOf(a[0]);
            case "gateOf": return x.gateOf(a[0], a[1]);
            case "all": return x.all();
            case "pass": return x.pass(a[0]);
            case "anew": return x.anew() ? 1 : 0;
            case "loads": return x.loads();
            case "load": return x.load(a[0], a[1]);
            default: return callMore(name, a);
        }
    }

    private int callMore(String name, int[] a) {
        switch (name) {
            case "cart": return x.cart(a[0]);
            case "busy": return x.busy(a[0]);
            case "tolls": return x.tolls(a[0]);
            case "worked": return x.worked(a[0]);
            case "waited": return x.waited();
            case "mark": return x.mark();
            case "back": return x.back(a[0]) ? 1 : 0;
            case "saves": return x.saves(a[0], a[1], a[2]);
            case "breach": return x.breach(a[0], a[1]);
            case "ram": return x.ram(a[0], a[1], a[2]);
            case "ramBy": return x.ramBy(a[0], a[1], a[2], a[3], a[4]);
            case "hold": return x.hold(a[0]);
            case "stand": return x.stand();
            case "theft": return x.theft(a[0], a[1], a[2], a[3], a[4] != 0);
            case "widen": return x.widen(a[0], a[1], a[2]) ? 1 : 0;
            case "dig": return x.dig(a[0], a[1], a[2], a[3], a[4], a[5]);
            case "close": return x.close(a[0]) ? 1 : 0;
            case "undo": return x.undo() ? 1 : 0;
            case "led":
                try {
                    return x.led(a[0]);
                } catch (NoSuchElementException e) {
                    return Integer.MIN_VALUE;
                }
            case "size": return x.size(a[0]);
            case "trouble": return x.trouble();
            default: throw new IllegalArgumentException(name);
        }
    }

    // -- cities

    private void tellCity() {
        String text = text();
        if (random.nextInt(3) == 0) {
            for (int i = 0; i < 12; i++) {
                feedAndCity(spoilt(text), 0);
            }
            calls -= 50;
        }
        feedAndCity(text, random.nextInt(3));
    }

    private void feedAndCity(String text, int odd) {
        byte[] bytes = text.getBytes(java.nio.charset.StandardCharsets.ISO_8859_1);
        for (int i = 0; i < bytes.length; i += 20) {
            both("feed", Check.number(bytes, i), Check.number(bytes, i + 4), Check.number(bytes, i + 8),
                Check.number(bytes, i + 12), Check.number(bytes, i + 16));
        }
        if (odd == 0 && random.nextInt(5) == 0) {
            both("city", upTo(bytes.length));
        }
        both("city", bytes.length);
        both("fault");
        both("where");
        both("size", 8);
    }

    private String spoilt(String text) {
        StringBuilder b = new StringBuilder(text);
        int at = random.nextInt(b.length());
        String[] bits = {";", ",", " ", "9", "rings", "gate", "aa", " parts 3", " tilts", " holy", "order", "\u00ff",
            ";good q long 1 wide 1 high 1 weighs 1", "100", "0", "A", ";store 0 bread 1 mouths 1"};
        switch (random.nextInt(5)) {
            case 0: b.setLength(at); break;
            case 1: b.deleteCharAt(at); break;
            case 2: b.insert(at, bits[random.nextInt(bits.length)]); break;
            case 3: b.setCharAt(at, bits[random.nextInt(bits.length)].charAt(0)); break;
            default: swapLines(b); break;
        }
        return b.length() > 900 ? b.substring(0, 900) : b.toString();
    }

    private void swapLines(StringBuilder b) {
        String[] lines = b.toString().split(";");
        int i = random.nextInt(lines.length);
        int j = random.nextInt(lines.length);
        String line = lines[i];
        lines[i] = lines[j];
        lines[j] = random.nextBoolean() ? line : lines[i];
        b.setLength(0);
        b.append(String.join(";", lines));
    }

    private int some(int low, int high) {
        return low + random.nextInt(high - low + 1);
    }

    /** Half of the cities are roomy, so that much goes through them; the others bar most goods. */
    private String text() {
        boolean roomy = random.nextBoolean();
        int rings = some(2, roomy ? 4 : 6);
        int widest = roomy ? some(15, 30) : some(6, 30);
        StringBuilder b = new StringBuilder("rings ").append(widest);
        for (int i = 1; i < rings; i++) {
            widest = some(Math.max(1, widest - 4), widest);
            b.append(',').append(widest);
        }
        int gates = roomy ? some(rings - 1, rings + 1) : some(0, Math.min(11, rings * 2));
        boolean even = random.nextBoolean();
        for (int i = 0; i < gates; i++) {
            b.append(String.format(";gate a%s in %d at %d wide %d high %d hands %d toll %d", word(i),
                roomy ? i % (rings - 1) : random.nextInt(rings - 1), random.nextInt(even ? 3 : 12),
                roomy ? some(8, 20) : some(2, 15), roomy ? some(8, 20) : some(2, 15),
                even ? 3 : some(1, 9), even ? 1 : some(0, 20)));
        }
        int carts = roomy ? some(rings, 5) : some(1, 8);
        for (int i = 0; i < carts; i++) {
            b.append(String.format(";cart b%s in %d bears %d", word(i), roomy ? i % rings : random.nextInt(rings),
                some(roomy ? 15 : 5, random.nextBoolean() ? 20 : 99)));
        }
        int goods = roomy ? some(1, 2) : some(1, 4);
        for (int i = 0; i < goods; i++) {
            b.append(String.format(";good g%s long %d wide %d high %d weighs %d%s%s%s", word(i),
                some(1, roomy ? 45 : 25), some(1, 12), some(1, 12), some(1, random.nextBoolean() ? 15 : 60),
                random.nextInt(3) > 0 ? " parts " + some(2, roomy ? 9 : 5) : "",
                random.nextInt(3) == 0 ? " tilts" : "", random.nextInt(5) == 0 ? " holy" : ""));
        }
        for (int i = 0; i < rings; i++) {
            if (random.nextInt(3) == 0) {
                b.append(String.format(";store %d bread %d mouths %d", i, some(0, 200), some(0, 9)));
            }
        }
        int orders = some(roomy ? 4 : 0, 8);
        for (int i = 0; i < orders; i++) {
            String line = String.format(";order o%s of g%s from %d,%d to %d,%d hour %d", word(i),
                word(random.nextInt(goods)), random.nextInt(rings), random.nextInt(even ? 4 : 12),
                random.nextInt(rings), random.nextInt(even ? 4 : 12), some(0, random.nextInt(3) > 0 ? 3 : 23));
            if (b.length() + line.length() <= 900) {
                b.append(line);
            }
        }
        return b.length() > 900 ? b.substring(0, 900) : b.toString();
    }

    private static String word(int n) {
        return "" + (char) ('a' + n);
    }
}
