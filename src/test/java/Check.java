import java.nio.charset.StandardCharsets;

/** What the tests share: counting wrong answers and telling a city as a text. */
final class Check {
    private final String name;
    private int calls = 0;
    private int wrong = 0;
    private String promise = "";

    Check(String name) {
        this.name = name;
    }

    /** What follows is due by this promise, until the next one is named. */
    void promise(int number, String call) {
        promise = "promise " + number + " (" + call + "): ";
    }

    void due(String call, long got, long want) {
        calls++;
        if (got != want) {
            wrong++;
            System.out.println(name + ": " + promise + call + " answered " + got + ", due is " + want);
        }
    }

    void due(String call, boolean got, boolean want) {
        due(call, got ? 1 : 0, want ? 1 : 0);
    }

    /** The answer and the TROUBLE of the call that gave it. */
    void due(String call, NarrowRings x, long got, long want, int trouble) {
        due(call, got, want);
        due(call + " trouble", x.trouble(), trouble);
    }

    void due(String call, NarrowRings x, boolean got, boolean want, int trouble) {
        due(call, got, want);
        due(call + " trouble", x.trouble(), trouble);
    }

    void end() {
        System.out.println(name + ": " + calls + " answers, " + wrong + " wrong");
        if (wrong != 0 || calls == 0) {
            System.exit(1);
        }
    }

    static int number(byte[] bytes, int from) {
        int n = 0;
        for (int i = from; i < from + 4; i++) {
            n = n << 8 | (i < bytes.length ? bytes[i] & 255 : 32);
        }
        return n;
    }

    static int feed(NarrowRings x, byte[] bytes) {
        int answer = x.size(8);
        for (int i = 0; i < bytes.length; i += 20) {
            answer = x.feed(number(bytes, i), number(bytes, i + 4), number(bytes, i + 8),
                number(bytes, i + 12), number(bytes, i + 16));
        }
        return answer;
    }

    static int tell(NarrowRings x, String text) {
        byte[] bytes = text.getBytes(StandardCharsets.ISO_8859_1);
        feed(x, bytes);
        return x.city(bytes.length);
    }

    /** A new object with a city that is whole. */
    static NarrowRings city(String text) {
        NarrowRings x = new NarrowRings();
        if (tell(x, text) < 2) {
            throw new IllegalStateException("FAULT " + x.fault() + " at " + x.where() + ": " + text);
        }
        return x;
    }
}
