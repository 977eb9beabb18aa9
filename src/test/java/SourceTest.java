import java.io.IOException;
import java.nio.file.Files;
import java.nio.file.Path;
import java.util.List;
import java.util.regex.Matcher;
import java.util.regex.Pattern;

/** Rules of LANGUAGE.md that can be read off the source; run from the project's root. */
public final class SourceTest {
    private static final Check CHECK = new Check("SourceTest");
    private static final String[] BARRED = {"->", "::", "\\btry\\b", "\\bcatch\\b", "\\bfinally\\b",
        "\\bsynchronized\\b", "\\bassert\\b", "\\bstatic \\{", "\\brecord\\b", "\\bdouble\\b", "\\bfloat\\b",
        "Exact\\(", "\\bSystem\\.(?!arraycopy)", "\\bObject\\b", "\\bnew [A-Za-z.]*List", "\\bpackage\\b", "\\bnull\\b"};

    public static void main(String[] args) throws IOException {
        List<String> lines = Files.readAllLines(Path.of("src/main/java/NarrowRings.java"));
        StringBuilder code = new StringBuilder();
        for (String line : lines) {
            String trimmed = line.trim();
            boolean comment = trimmed.startsWith("//") || trimmed.startsWith("*") || trimmed.startsWith("/*");
            code.append(comment ? "" : line).append('\n');
            CHECK.due("a line of 120 signs at most: " + line, line.length() <= 120, true);
        }
        for (String barred : BARRED) {
            Matcher m = Pattern.compile(barred).matcher(code);
            CHECK.due("no " + barred, m.find(), false);
        }
        imports(lines);
        makesOnlyInConstructors(lines);
        shortMethods(lines);
        CHECK.end();
    }

    private static void imports(List<String> lines) {
        for (String line : lines) {
            if (line.startsWith("import ")) {
                boolean listed = line.equals("import java.util.Arrays;")
                    || line.equals("import java.util.NoSuchElementException;");
                CHECK.due(line, listed, true);
            }
        }
    }

    /** All calls live in one room: what is made is made once, by constructors. */
    private static void makesOnlyInConstructors(List<String> lines) {
        Pattern constructor = Pattern.compile("^ +(public )?[A-Z][A-Za-z]*\\(.*\\) \\{$");
        Pattern method = Pattern.compile("^ +[a-zA-Z\\[\\] ]+ [a-z][A-Za-z]*\\(.*\\{$");
        boolean inConstructor = false;
        for (String line : lines) {
            if (constructor.matcher(line).matches()) {
                inConstructor = true;
            } else if (method.matcher(line).matches() && !line.contains(" for (")) {
                inConstructor = false;
            }
            boolean makes = line.contains("new ") && !line.contains("throw new ") && !line.trim().startsWith("/");
            CHECK.due("made by a constructor: " + line, !makes || inConstructor, true);
        }
    }

    private static void shortMethods(List<String> lines) {
        Pattern begin = Pattern.compile("^( {4}| {8})[A-Za-z].*\\) (throws [A-Za-z]+ )?\\{$");
        for (int i = 0; i < lines.size(); i++) {
            Matcher m = begin.matcher(lines.get(i));
            if (!m.matches()) {
                continue;
            }
            int end = i;
            while (end < lines.size() && !lines.get(end).equals(m.group(1) + "}")) {
                end++;
            }
            CHECK.due("a method of sixty lines at most: " + lines.get(i), end - i < 60, true);
        }
    }
}
