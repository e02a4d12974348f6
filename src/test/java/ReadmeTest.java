import java.io.IOException;
import java.nio.file.Files;
import java.nio.file.Path;
import java.util.ArrayList;
import java.util.List;
import java.util.Set;
import java.util.TreeSet;
import java.util.regex.Matcher;
import java.util.regex.Pattern;
import java.util.stream.Stream;

/** What README.md says: its calls, one behind the other, have the answers that stand behind them. */
public final class ReadmeTest {
    private static final Check CHECK = new Check("ReadmeTest");
    private static final Pattern ASKED = Pattern.compile("x\\.((\\w+)\\([-0-9, ]*\\)); +// (-?\\d+)(: .+)?");
    private static final Pattern TEXT = Pattern.compile("String text = \"(.*)\";");
    private static final Set<String> FACE = Set.of("type", "clear", "history", "revision", "line", "blocks", "passes",
            "rules", "undo", "gives", "begun", "age", "like", "carried", "kept", "common", "sees", "forget", "unseen",
            "keep", "back", "count");

    private final Set<String> named = new TreeSet<>();
    private Run run = null;
    private String text = "";

    public static void main(String[] args) throws IOException {
        List<String> lines = Files.readAllLines(Path.of("README.md"));
        ReadmeTest readme = new ReadmeTest();
        for (String line : javaLines(lines)) {
            readme.follow(line.trim());
        }
        CHECK.due("README.md has every call of the face", readme.named.equals(FACE));
        testsAreNamed(lines);
        CHECK.end();
    }

    /** The lines between ```java and ```. */
    private static List<String> javaLines(List<String> lines) {
        List<String> found = new ArrayList<>();
        boolean inside = false;
        for (String line : lines) {
            if (line.startsWith("```")) {
                inside = line.equals("```java");
            } else if (inside) {
                found.add(line);
            }
        }
        return found;
    }

    private void follow(String line) {
        Matcher asked = ASKED.matcher(line);
        Matcher told = TEXT.matcher(line);
        if (asked.matches()) {
            named.add(asked.group(2));
            run.due(asked.group(1), Integer.parseInt(asked.group(3)));
        } else if (told.matches()) {
            text = told.group(1);
        } else if (line.equals("LineOrigins x = new LineOrigins();")) {
            run = new Run(CHECK, "README.md");
        } else if (line.equals("x.type(letter);")) {
            named.add("type");
            run.type(text);
        } else {
            boolean isLoop = line.equals("for (char letter : text.toCharArray()) {") || line.equals("}");
            CHECK.due("README.md has a line that this test can't follow: " + line, isLoop);
        }
    }

    private static void testsAreNamed(List<String> lines) throws IOException {
        Set<String> inTable = new TreeSet<>();
        Matcher name = Pattern.compile("(?m)^\\| (\\w+Test) \\|").matcher(String.join("\n", lines));
        while (name.find()) {
            inTable.add(name.group(1));
        }
        Set<String> there = new TreeSet<>();
        try (Stream<Path> files = Files.list(Path.of("src/test/java"))) {
            files.map(file -> file.getFileName().toString()).filter(file -> file.endsWith("Test.java"))
                    .forEach(file -> there.add(file.substring(0, file.length() - ".java".length())));
        }
        CHECK.due("README.md's tests are those in src/test/java: " + inTable, inTable.equals(there));
        CHECK.due(".ci/run is there, as README.md says", Files.isExecutable(Path.of(".ci/run")));
    }
}
