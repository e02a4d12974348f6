import java.util.Random;

/** Long runs of calls, the same ones every time, on the class and on the PlainModel: all answers are the same. */
public final class ModelTest {
    private static final int RUNS = 150;
    private static final int CALLS = 400;
    private static final int TEXTS = 4000;
    private static final Check CHECK = new Check("ModelTest");

    private final Random random;
    private final LineOrigins x = new LineOrigins();
    private final PlainModel model = new PlainModel();

    private ModelTest(int seed) {
        random = new Random(seed);
    }

    public static void main(String[] args) {
        for (int seed = 0; seed < RUNS; seed++) {
            new ModelTest(seed).run();
        }
        ModelTest texts = new ModelTest(-1);
        for (int i = 0; i < TEXTS; i++) {
            texts.brokenText();
        }
        CHECK.end();
    }

    private void run() {
        int left = CALLS;
        while (left > 0) {
            tell(wellTold());
            for (int i = 0; i < 130 && left > 0; i++) {
                call();
                left--;
            }
        }
    }

    private void tell(String text) {
        CHECK.due("clear()", x.clear(), model.clear());
        for (int i = 0; i < text.length(); i++) {
            CHECK.due("type", x.type(text.charAt(i)), model.type(text.charAt(i)));
        }
        CHECK.due("'" + text + "' history()", x.history(), model.history());
    }

    /** REVISIONS that are made of one another by small changes, blocks moved among them, of few letters. */
    private String wellTold() {
        int number = 1 + random.nextInt(8);
        int letters = 2 + random.nextInt(7);
        String[] lines = new String[number];
        StringBuilder text = new StringBuilder();
        for (int r = 0; r < number; r++) {
            int parents = Math.min(r, random.nextInt(8) == 0 ? 0 : 1 + random.nextInt(2));
            int first = r == 0 ? 0 : Math.max(random.nextInt(r), random.nextInt(r));
            int second = r < 2 ? 0 : (first + 1 + random.nextInt(r - 1)) % r;
            String base = parents == 0 ? row(8, letters) : lines[first];
            if (parents == 2 && random.nextBoolean()) {
                base = joined(lines[first], lines[second]);
            }
            lines[r] = changed(base, letters);
            text.append('R').append(parents > 0 ? "" + first : "").append(parents > 1 ? " " + second : "");
            text.append(':').append(lines[r]).append(';');
        }
        return text.length() <= 120 ? text.toString() : "R:abcd;R0:cdxab;R0:abyd;R1 2:cdyxab;";
    }

    private String row(int longest, int letters) {
        StringBuilder row = new StringBuilder();
        for (int length = random.nextInt(longest + 1); length > 0; length--) {
            row.append((char) ('a' + random.nextInt(letters)));
        }
        return row.toString();
    }

    private String joined(String a, String b) {
        return a.substring(0, (a.length() + 1) / 2) + b.substring(b.length() / 2);
    }

    private String changed(String base, int letters) {
        String lines = base;
        for (int changes = random.nextInt(4); changes > 0; changes--) {
            int from = random.nextInt(lines.length() + 1);
            int to = from + random.nextInt(lines.length() - from + 1);
            String rest = lines.substring(0, from) + lines.substring(to);
            int at = random.nextInt(rest.length() + 1);
            String middle = random.nextInt(3) > 0 ? lines.substring(from, to) : row(2, letters);
            lines = rest.substring(0, at) + middle + rest.substring(at);
        }
        return lines.substring(0, Math.min(8, lines.length()));
    }

    /** Mostly a number below the bound, now and then one outside. */
    private int number(int bound) {
        int dice = random.nextInt(60);
        if (dice == 0) {
            return -1 - random.nextInt(3);
        }
        if (dice == 1) {
            return bound + random.nextInt(3);
        }
        return bound <= 0 ? 0 : random.nextInt(bound);
    }

    private int anyRevision() {
        return number(model.count(0));
    }

    private int anyLine(int r) {
        return number(Math.max(0, model.revision(r, 0)));
    }

    private void call() {
        int r = anyRevision();
        int k = anyLine(r);
        int other = anyRevision();
        int what = number(9);
        String call = " with r " + r + ", k " + k + ", other " + other + ", what " + what;
        switch (random.nextInt(24)) {
            case 0 -> CHECK.due("revision" + call, x.revision(r, what / 2), model.revision(r, what / 2));
            case 1, 2, 3 -> line(r, k);
            case 4 -> CHECK.due("blocks" + call, x.blocks(what / 2), model.blocks(what / 2));
            case 5, 6, 7 -> CHECK.due("passes" + call, x.passes(r), model.passes(r));
            case 8 -> CHECK.due("rules" + call, x.rules(what / 2), model.rules(what / 2));
            case 9 -> CHECK.due("undo" + call, x.undo(), model.undo());
            case 10, 11 -> gives(r, k);
            case 12 -> CHECK.due("begun" + call, x.begun(r, other), model.begun(r, other));
            case 13 -> CHECK.due("age" + call, x.age(r, what), model.age(r, what));
            case 14 -> CHECK.due("like" + call, x.like(r, k, other), model.like(r, k, other));
            case 15 -> CHECK.due("carried" + call, x.carried(r, k), model.carried(r, k));
            case 16 -> CHECK.due("kept" + call, x.kept(r, other), model.kept(r, other));
            case 17 -> CHECK.due("common" + call, x.common(r, what / 4), model.common(r, what / 4));
            case 18 -> sees(r, k, other);
            case 19 -> CHECK.due("forget" + call, x.forget(), model.forget());
            case 20 -> CHECK.due("unseen" + call, x.unseen(), model.unseen());
            case 21 -> CHECK.due("keep" + call, x.keep(what / 4), model.keep(what / 4));
            case 22 -> back(what);
            default -> CHECK.due("count" + call, x.count(what), model.count(what));
        }
    }

    private void line(int r, int k) {
        for (int what = 0; what <= 7; what++) {
            CHECK.due("line(" + r + ", " + k + ", " + what + ")", x.line(r, k, what), model.line(r, k, what));
        }
    }

    private void gives(int r, int k) {
        for (int rule = 0; rule <= 4; rule++) {
            CHECK.due("gives(" + rule + ", " + r + ", " + k + ")", x.gives(rule, r, k), model.gives(rule, r, k));
        }
    }

    /** What is SEEN is mostly true for some REVISION, so that UNSEEN is not always 0. */
    private void sees(int r, int k, int other) {
        int is = number(2);
        int from = is == 1 && random.nextBoolean() ? model.line(r, k, 4) : other;
        CHECK.due("sees(" + r + ", " + k + ", " + from + ", " + is + ")", x.sees(r, k, from, is),
                model.sees(r, k, from, is));
        CHECK.due("unseen()", x.unseen(), model.unseen());
    }

    private void back(int what) {
        if (random.nextInt(3) == 0) {
            CHECK.due("back(" + what / 4 + ")", x.back(what / 4), model.back(what / 4));
        }
    }

    /** A text that is well told but for a few letters. */
    private void brokenText() {
        StringBuilder text = new StringBuilder(wellTold());
        for (int changes = random.nextInt(3); changes > 0; changes--) {
            int at = random.nextInt(text.length() + 1);
            char letter = "R:;abz 0123789Y".charAt(random.nextInt(15));
            if (random.nextBoolean() && at < text.length()) {
                text.setCharAt(at, letter);
            } else {
                text.insert(at, letter);
            }
            if (random.nextInt(3) == 0) {
                text.deleteCharAt(random.nextInt(text.length()));
            }
        }
        tell(text.toString());
        CHECK.due("count(4)", x.count(4), model.count(4));
    }
}
