import java.io.IOException;
import java.lang.reflect.Method;
import java.lang.reflect.Modifier;
import java.nio.file.Files;
import java.nio.file.Path;
import java.util.ArrayList;
import java.util.List;
import java.util.stream.Stream;

/** README.md: its example stands below and does what it says; it names every call and every test. */
public final class ReadmeTest {
    private static final Check CHECK = new Check("ReadmeTest");
    private static final Path TESTS = Path.of("src/test/java");

    public static void main(String[] args) throws IOException {
        List<String> readme = Files.readAllLines(Path.of("README.md"));
        example();
        exampleIsThatOfReadme(readme);
        namesEveryCall(readme);
        namesEveryTest(readme);
        CHECK.end();
    }

    /** The lines of the example as they stand in README.md, with what is due behind them. */
    private static void example() {
        NoiseEngine engine = new NoiseEngine();
        for (int k = 0; k < 4; k++) {
            engine.feed(k + 1, 2, 3, 4, 5);
            engine.feed(6, 7, 8, 0, 0);
            engine.key(k);
        }
        engine.start(0, true, 0, 1, 0);
        engine.start(1, false, 2, 3, 0);
        engine.write(0, 0);
        CHECK.due("message 0: bytes", engine.count(1), 32);
        engine.read(1, engine.turn());
        engine.write(1, 0);
        CHECK.due("message 1: bytes", engine.count(1), 96);
        engine.read(0, engine.turn());
        engine.write(0, 0);
        CHECK.due("message 2: bytes", engine.count(1), 64);
        CHECK.due("the initiator is over", engine.state(0, 0), 3);
        CHECK.due("the responder is not yet", engine.state(1, 0), 2);
        engine.read(1, engine.turn());
        CHECK.due("so is the responder", engine.state(1, 0), 3);
        engine.feed(0x68656c6c, 0x6f000000, 0, 0, 0);
        engine.send(0, 5);
        CHECK.due("the transport message: bytes", engine.count(1), 21);
        engine.receive(1, engine.turn());
        CHECK.due("it opens to", Check.outHex(engine), Check.asciiHex("hello"));
    }

    private static void exampleIsThatOfReadme(List<String> readme) throws IOException {
        List<String> own = Files.readAllLines(TESTS.resolve("ReadmeTest.java"));
        int begin = readme.indexOf("```java") + 1;
        CHECK.due("README.md has an example", begin > 0, true);
        int at = 0;
        for (int i = begin; begin > 0 && i < readme.size() && !readme.get(i).equals("```"); i++) {
            String line = withoutComment(readme.get(i));
            int found = at;
            while (found < own.size() && !withoutComment(own.get(found)).equals(line)) {
                found++;
            }
            CHECK.due("'" + line + "' stands in example()", line.isEmpty() || found < own.size(), true);
            at = line.isEmpty() || found == own.size() ? at : found + 1;
        }
        CHECK.due("the example has lines", at > 0, true);
    }

    private static String withoutComment(String line) {
        return line.replaceFirst("//.*", "").trim();
    }

    private static void namesEveryCall(List<String> readme) {
        for (Method method : NoiseEngine.class.getDeclaredMethods()) {
            if (Modifier.isPublic(method.getModifiers())) {
                int count = method.getParameterCount();
                String names = count == 0 ? "" : "\\w+(, \\w+){" + (count - 1) + "}";
                String row = "\\| `" + method.getName() + "\\(" + names + "\\)` \\|.*";
                CHECK.due(method.getName() + "() has a row", readme.stream().filter(line -> line.matches(row)).count(), 1);
            }
        }
    }

    private static void namesEveryTest(List<String> readme) throws IOException {
        List<String> due = new ArrayList<>();
        try (Stream<Path> files = Files.list(TESTS)) {
            files.map(file -> file.getFileName().toString()).filter(name -> name.endsWith("Test.java"))
                    .forEach(name -> due.add("| `" + name.replace(".java", "") + "` |"));
        }
        for (String row : due) {
            CHECK.due("'" + row + "' begins a row", readme.stream().filter(line -> line.startsWith(row)).count(), 1);
        }
        long rows = readme.stream().filter(line -> line.matches("\\| `\\w+Test` \\|.*")).count();
        CHECK.due("rows of tests", rows, due.size());
    }
}
