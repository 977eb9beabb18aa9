import java.io.IOException;
import java.nio.file.DirectoryStream;
import java.nio.file.Files;
import java.nio.file.Path;
import java.util.Set;
import java.util.TreeSet;
import java.util.regex.Matcher;
import java.util.regex.Pattern;

/** Every promise of the document is named by a test of its edges; run from the project's root. */
public final class PromisesTest {
    private static final Check CHECK = new Check("PromisesTest");
    private static final int PROMISES = 42;

    public static void main(String[] args) throws IOException {
        Set<Integer> named = new TreeSet<>();
        Pattern promise = Pattern.compile("CHECK\\.promise\\((\\d+),");
        try (DirectoryStream<Path> files = Files.newDirectoryStream(Path.of("src/test/java"), "Edge*Test.java")) {
            for (Path file : files) {
                Matcher m = promise.matcher(Files.readString(file));
                while (m.find()) {
                    named.add(Integer.parseInt(m.group(1)));
                }
            }
        }
        for (int i = 1; i <= PROMISES; i++) {
            CHECK.due("promise " + i + " is named by a test of its edges", named.contains(i), true);
        }
        CHECK.due("no promise beyond them", named.size(), PROMISES);
        CHECK.end();
    }
}
