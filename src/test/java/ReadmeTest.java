import java.io.IOException;
import java.lang.reflect.InvocationTargetException;
import java.lang.reflect.Method;
import java.nio.file.Files;
import java.nio.file.Path;
import java.util.regex.Matcher;
import java.util.regex.Pattern;

/** The calls of README.md, one behind the other on one object, answer what it says; run from the project's root. */
public final class ReadmeTest {
    private static final Check CHECK = new Check("ReadmeTest");
    private static final Pattern TEXT = Pattern.compile("^String text = \"(.*)\";$");
    private static final Pattern CALL = Pattern.compile("^(x\\.(\\w+)|tell)\\((.*)\\) +// (-?\\d+|true|false)\\b.*$");
    private static final int LEAST_CALLS = 25;

    public static void main(String[] args) throws Exception {
        NarrowRings x = new NarrowRings();
        String text = "";
        int calls = 0;
        for (String line : Files.readAllLines(Path.of("README.md"))) {
            Matcher told = TEXT.matcher(line);
            if (told.matches()) {
                text = told.group(1);
            }
            Matcher call = CALL.matcher(line);
            if (call.matches()) {
                CHECK.due(line, answer(x, call.group(2), call.group(3), text).equals(call.group(4)), true);
                calls++;
            }
        }
        CHECK.due("calls are found in README.md", calls >= LEAST_CALLS, true);
        lineSamples();
        CHECK.end();
    }

    private static String answer(NarrowRings x, String name, String arguments, String text) throws Exception {
        if (name == null) {
            String told = arguments.substring(arguments.indexOf(',') + 1).trim();
            return "" + Check.tell(x, told.equals("text") ? text : told.substring(1, told.length() - 1));
        }
        String[] parts = arguments.isEmpty() ? new String[0] : arguments.split(", ");
        for (Method m : NarrowRings.class.getMethods()) {
            if (m.getName().equals(name)) {
                return call(x, m, parts);
            }
        }
        return "there is no call " + name;
    }

    private static String call(NarrowRings x, Method m, String[] parts) throws IllegalAccessException {
        Object[] values = new Object[parts.length];
        for (int i = 0; i < parts.length; i++) {
            boolean truth = m.getParameterTypes()[i] == boolean.class;
            values[i] = truth ? (Object) Boolean.valueOf(parts[i]) : (Object) Integer.valueOf(parts[i]);
        }
        try {
            return m.invoke(x, values).toString();
        } catch (InvocationTargetException e) {
            return e.getCause().toString();
        }
    }

    /** The LINES of the table of README.md make up a city. */
    private static void lineSamples() throws IOException {
        Pattern row = Pattern.compile("^\\| `((rings|gate|cart|store|good|order) .*?)` \\|.*$");
        StringBuilder text = new StringBuilder();
        for (String line : Files.readAllLines(Path.of("README.md"))) {
            Matcher m = row.matcher(line);
            if (m.matches()) {
                text.append(text.length() == 0 ? "" : ";").append(m.group(1));
            }
        }
        NarrowRings x = new NarrowRings();
        CHECK.due("rings of " + text, Check.tell(x, text.toString()), 3);
        for (int what = 1; what <= 4; what++) {
            CHECK.due("one of each sort, size(" + what + ")", x.size(what), 1);
        }
    }
}
