import java.io.IOException;
import java.nio.file.Files;
import java.nio.file.Path;
import java.util.Set;
import java.util.regex.Matcher;
import java.util.regex.Pattern;

/** The rules of LANGUAGE.md that can be told from the text of the class, and that no call makes objects. */
public final class LanguageTest {
    private static final Check CHECK = new Check("LanguageTest");
    private static final String[] RULED_OUT = {
        "throw", "throws", "try", "catch", "finally", "synchronized", "assert", "volatile", "transient", "native",
        "import", "package", "protected", "Object", "Thread", "Random", "nanoTime", "currentTimeMillis", "System.out",
        "System.in", "System.exit", "hashCode", "toString", "equals", "Exact", "Exception", "Error", "null", "var"
    };
    private static final Set<String> FACE = Set.of("type", "clear", "history", "revision", "line", "blocks", "passes",
            "rules", "undo", "gives", "begun", "age", "like", "carried", "kept", "common", "sees", "forget", "unseen",
            "keep", "back", "count");

    public static void main(String[] args) throws IOException {
        String source = Files.readString(Path.of("src/main/java/LineOrigins.java"));
        String code = source.replaceAll("(?s)/\\*.*?\\*/", " ").replaceAll("//[^\n]*", " ");
        for (String word : RULED_OUT) {
            CHECK.due("no " + word, !Pattern.compile("\\b" + Pattern.quote(word) + "\\b").matcher(code).find());
        }
        CHECK.due("no lambda, no method reference", !code.contains("->") && !code.contains("::"));
        CHECK.due("letters of the source are 1 to 127", source.chars().allMatch(c -> c >= 1 && c <= 127));
        nestedClasses(code);
        methods(code);
        methodLengths(source);
        staticFields(code);
        onlyConstructorsMakeObjects(code);
        noCallMakesObjects();
        CHECK.end();
    }

    private static void nestedClasses(String code) {
        Matcher classes = Pattern.compile("(\\w+ \\w+ \\w+) class \\w+").matcher(code);
        int number = 0;
        while (classes.find()) {
            number++;
            CHECK.due("a nested class is private, static, final", classes.group(1).equals("private static final"));
        }
        CHECK.due("at most twelve classes", number > 0 && number + 1 <= 12);
    }

    private static void methods(String code) {
        Matcher methods = Pattern.compile("\\n {4,8}(public |private )?(static )?\\w+(\\[\\])? (\\w+)\\(([^)]*)\\) \\{")
                .matcher(code);
        int number = 0;
        while (methods.find()) {
            number++;
            boolean isFace = "public ".equals(methods.group(1));
            CHECK.due(methods.group(4) + " has a name of its own", isFace == FACE.contains(methods.group(4)));
            CHECK.due(methods.group(4) + " takes at most seven", methods.group(5).split(",").length <= 7);
        }
        CHECK.due("the methods were found", number > 60);
    }

    private static void methodLengths(String source) {
        int length = 0;
        for (String row : source.split("\n")) {
            length = row.matches(" {4,8}\\S.*\\{") ? 0 : length + 1;
            CHECK.due("short enough: " + row, !row.matches(" {4,8}\\}") || length <= 60);
            CHECK.due("no long row: " + row, row.length() <= 120);
        }
    }

    private static void staticFields(String code) {
        for (String row : code.split("\n")) {
            if (row.matches(".*\\bstatic\\b.*;")) {
                CHECK.due("a constant: " + row, row.matches(" +(public|private) static final int [A-Z].*"));
            }
        }
    }

    /** Objects and rows are made where fields are, and nowhere in a method. */
    private static void onlyConstructorsMakeObjects(String code) {
        for (String row : code.split("\n")) {
            CHECK.due("made with the object: " + row,
                    !row.contains("new ") || row.matches(" +private final .* = new .*;"));
        }
    }

    private static void noCallMakesObjects() {
        com.sun.management.ThreadMXBean threads =
                (com.sun.management.ThreadMXBean) java.lang.management.ManagementFactory.getThreadMXBean();
        if (!threads.isThreadAllocatedMemorySupported()) {
            return;
        }
        LineOrigins x = Check.told("R:abcdqrst;R0:qrstabcd;R0 1:abxyrstq;R2:abab;");
        useAll(x);
        long thread = Thread.currentThread().getId();
        threads.getThreadAllocatedBytes(thread);
        long before = threads.getThreadAllocatedBytes(thread);
        for (int i = 0; i < 1000; i++) {
            useAll(x);
        }
        long made = threads.getThreadAllocatedBytes(thread) - before;
        // One object of the smallest kind a turn would be 16,000 bytes.
        CHECK.due("1000 turns of all calls made " + made + " bytes", made < 8000);
    }

    private static void useAll(LineOrigins x) {
        Check.type(x, "R:abcdqrst;R0:qrstabcd;R0 1:abxyrstq;R2:abab;");
        x.history();
        x.type('R');
        x.history();
        x.clear();
        x.keep(0);
        x.blocks(1);
        x.passes(2);
        x.rules(0);
        x.sees(2, 0, 0, 1);
        x.unseen();
        x.undo();
        x.back(0);
        x.forget();
        for (int what = 0; what < 9; what++) {
            x.count(what);
            x.revision(2, what);
            x.line(2, 2, what);
            x.gives(what, 2, 2);
            x.age(2, what);
        }
        x.begun(2, 0);
        x.like(2, 0, 1);
        x.carried(0, 0);
        x.kept(0, 2);
        x.common(2, 1);
    }
}
