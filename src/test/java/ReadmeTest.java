import java.io.IOException;
import java.nio.file.Files;
import java.nio.file.Path;
import java.util.ArrayList;
import java.util.List;

/** README.md's example is the one that is run here, and each call of it answers what is told there. */
public final class ReadmeTest extends Scenes {
    private static final List<String> EXAMPLE = List.of(
        "BundlePair pair = new BundlePair();",
        "pair.port(0, 0, 5, 100);",
        "pair.port(1, 0, 7, 100);",
        "pair.manner(0, 0, true, false);",
        "pair.plug(0, 0, 0, 1);",
        "pair.tick(7);",
        "pair.give(0, 0, 3, 77);",
        "pair.tick(2);",
        "pair.came(1, 0, 2);");

    private ReadmeTest() {
    }

    public static void main(String[] args) throws IOException {
        List<String> told = exampleOf(Files.readAllLines(Path.of("README.md")));
        Checks.due("README.md has the example " + told, told.equals(EXAMPLE) ? 1 : 0, 1);
        runExample();
        Checks.end();
    }

    private static List<String> exampleOf(List<String> lines) {
        List<String> calls = new ArrayList<>();
        int start = lines.indexOf("```java");
        for (int i = start + 1; start >= 0 && i < lines.size() && !lines.get(i).equals("```"); i++) {
            calls.add(lines.get(i).replaceFirst(" *//.*", ""));
        }
        return calls;
    }

    private static void runExample() {
        BundlePair pair = new BundlePair();
        pair.port(0, 0, 5, 100);
        pair.port(1, 0, 7, 100);
        pair.manner(0, 0, true, false);
        pair.plug(0, 0, 0, 1);
        Checks.due("tick(7)", pair.tick(7), 0);
        dueStages("behind tick(7)", pair, 0, 4, 4);
        Checks.due("give(0, 0, 3, 77)", pair.give(0, 0, 3, 77), 0);
        Checks.due("tick(2)", pair.tick(2), 1);
        Checks.due("came(1, 0, 2)", pair.came(1, 0, 2), 77);
    }
}
