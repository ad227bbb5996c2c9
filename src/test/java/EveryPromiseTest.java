import java.io.IOException;
import java.nio.file.DirectoryStream;
import java.nio.file.Files;
import java.nio.file.Path;
import java.util.Map;
import java.util.TreeMap;
import java.util.regex.Matcher;
import java.util.regex.Pattern;

/** Each promise that the document numbers has tests of its own for its boundary cases, named after it. */
public final class EveryPromiseTest {
    private static final Path DOCUMENT = Path.of("../shared/DOC.md");
    private static final Path TESTS = Path.of("src/test/java");

    public static void main(String[] args) throws IOException {
        Map<Integer, Integer> tests = new TreeMap<>();
        Matcher promise = Pattern.compile("(?m)^## Promise (\\d+):").matcher(Files.readString(DOCUMENT));
        while (promise.find()) {
            tests.put(Integer.parseInt(promise.group(1)), 0);
        }
        try (DirectoryStream<Path> files = Files.newDirectoryStream(TESTS, "*EdgesTest.java")) {
            for (Path file : files) {
                Matcher test = Pattern.compile("static void promise(\\d\\d)\\w+\\(\\)").matcher(Files.readString(file));
                while (test.find()) {
                    tests.merge(Integer.parseInt(test.group(1)), 1, Integer::sum);
                }
            }
        }
        boolean right = tests.size() == 44;
        for (Map.Entry<Integer, Integer> entry : tests.entrySet()) {
            if (entry.getValue() == 0) {
                right = false;
                System.out.println("promise " + entry.getKey() + " has no test of its own");
            }
        }
        System.out.println(tests.size() + " promises, tests of each: " + tests.values());
        if (!right) {
            System.exit(1);
        }
    }
}
