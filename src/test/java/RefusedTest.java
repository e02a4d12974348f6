import java.util.ArrayList;
import java.util.LinkedHashSet;
import java.util.List;
import java.util.Set;

/**
 * Refused, and nothing changes: BAD (a number is not as told, or there is no such thing). Every call with numbers, in
 * three states, each number at the last values on both sides of its bounds and far outside of them.
 */
public final class RefusedTest {
    private static final Check CHECK = new Check("RefusedTest");

    /** What its numbers stand for: r a REVISION, k a LINE of the REVISION ahead of it, else 0 up to this one. */
    private static final String[] CALLS = {
        "type 255", "revision r 3", "line r k 6", "blocks 4", "passes r", "rules 3", "gives 3 r k", "begun r r",
        "age r 2147483647", "like r k r", "carried r k", "kept r r", "common r 1", "sees r k r 1", "keep 1", "back 1",
        "count 8"
    };
    /** Far outside, and what would be inside by a wrap-around of an address, a shift or a byte. */
    private static final int[] FAR = {
        Integer.MIN_VALUE, Integer.MIN_VALUE + 1, -(1 << 29), -257, -256, -255, -64, -32, -31, -9, -8, -3, -2,
        9, 10, 16, 31, 32, 33, 63, 64, 65, 257, 258, 511, 512, 1 << 16, 1 << 28, 1 << 29, (1 << 29) + 1, 1 << 30,
        Integer.MAX_VALUE - 1, Integer.MAX_VALUE
    };

    private final String name;
    private final String[] lines;
    private final List<String> right = new ArrayList<>();
    private final List<String> wrong = new ArrayList<>();

    private RefusedTest(String name, String... lines) {
        this.name = name;
        this.lines = lines;
    }

    public static void main(String[] args) {
        new RefusedTest("a new object").ask("");
        new RefusedTest("three REVISIONS, some LINES", "ab", "", "axb").ask("R:ab;R0:;R0 1:axb;", "blocks(1)",
                "passes(2)",
                "rules(1)", "keep(1)", "sees(2, 1, 0, 1)", "type(82)");
        full();
        CHECK.end();
    }

    /** Eight REVISIONS, THE TEXT full, six SEEN, ten to be UNDONE, both IMAGES kept. */
    private static void full() {
        List<String> then = new ArrayList<>(List.of("keep(0)", "blocks(0)", "rules(0)", "rules(1)", "keep(1)"));
        for (int r = 0; r < 8; r++) {
            then.add("passes(" + r + ")");
        }
        for (int i = 0; i < 6; i++) {
            then.add("sees(7, 0, 7, 1)");
        }
        for (int i = 0; i < 120; i++) {
            then.add("type(" + (int) "R:ab;R0:b;".charAt(Math.min(i, 9)) + ")");
        }
        String[] lines = {"abcdefgh", "", "a", "cdefgh", "hgfedcba", "ab", "ba", "abcdefgh"};
        new RefusedTest("all at most",
                lines).ask("R:abcdefgh;R0:;R1 0:a;R0:cdefgh;R3:hgfedcba;R:ab;R5 4:ba;R0 6:abcdefgh;",
                then.toArray(new String[0]));
    }

    private void ask(String text, String... then) {
        for (String call : CALLS) {
            sort(call.split(" "));
        }
        CHECK.due(name + ": there are wrong ones", wrong.size() > 100);
        CHECK.due(name + ": there are right ones", right.size() > 10);
        new Run(CHECK, name).told(text).then(then).leavesAll(wrong, LineOrigins.BAD).takesAll(right);
    }

    /** All calls of a kind: every mixture of the values next to the bounds, and the far ones in each place. */
    private void sort(String[] call) {
        Set<List<Integer>> all = new LinkedHashSet<>();
        mix(call, new ArrayList<>(), all);
        List<List<Integer>> near = new ArrayList<>(all);
        for (List<Integer> numbers : near) {
            boolean allAre0 = numbers.stream().allMatch(number -> number == 0);
            if (!allAre0 && !isRight(call, numbers)) {
                continue;
            }
            for (int place = 0; place < numbers.size(); place++) {
                for (int far : FAR) {
                    List<Integer> other = new ArrayList<>(numbers);
                    other.set(place, far);
                    all.add(other);
                }
            }
        }
        for (List<Integer> numbers : all) {
            String written = call[0] + "(" + numbers.toString().replaceAll("[\\[\\]]", "") + ")";
            (isRight(call, numbers) ? right : wrong).add(written);
        }
    }

    private void mix(String[] call, List<Integer> ahead, Set<List<Integer>> all) {
        int place = ahead.size() + 1;
        if (place == call.length) {
            all.add(ahead);
            return;
        }
        int last = last(call, ahead, place);
        for (int number : new int[] {-1, 0, last, last == Integer.MAX_VALUE ? last : last + 1}) {
            List<Integer> next = new ArrayList<>(ahead);
            next.add(number);
            mix(call, next, all);
        }
    }

    /** The last value that a number may have; -1 if it may have none. */
    private int last(String[] call, List<Integer> ahead, int place) {
        if (call[place].equals("r")) {
            return lines.length - 1;
        }
        if (call[place].equals("k")) {
            int r = ahead.get(ahead.size() - 1);
            return r >= 0 && r < lines.length ? lines[r].length() - 1 : -1;
        }
        return Integer.parseInt(call[place]);
    }

    private boolean isRight(String[] call, List<Integer> numbers) {
        for (int place = 1; place < call.length; place++) {
            int number = numbers.get(place - 1);
            if (number < 0 || number > last(call, numbers.subList(0, place - 1), place)) {
                return false;
            }
        }
        return true;
    }
}
