/** What the tests share: telling a text, and counting the answers that are not the due ones. */
final class Check {
    private final String name;
    private int asked = 0;
    private int wrong = 0;

    Check(String name) {
        this.name = name;
    }

    void due(String call, int got, int want) {
        asked++;
        if (got != want) {
            wrong++;
            System.out.println(name + ": " + call + " answered " + got + ", due is " + want);
        }
    }

    void due(String what, boolean holds) {
        due(what, holds ? 1 : 0, 1);
    }

    /** Ends the test: exit code 1 if an answer was wrong, or if nothing was asked. */
    void end() {
        System.out.println(name + ": " + asked + " asked, " + wrong + " wrong");
        if (wrong != 0 || asked == 0) {
            System.exit(1);
        }
    }

    static void type(LineOrigins x, String text) {
        for (int i = 0; i < text.length(); i++) {
            x.type(text.charAt(i));
        }
    }

    /** A new object with these REVISIONS. */
    static LineOrigins told(String text) {
        LineOrigins x = new LineOrigins();
        type(x, text);
        if (x.history() < 0) {
            throw new IllegalStateException("a test's own text has a fault: " + text);
        }
        return x;
    }

    /** All that can be asked of an object without changing it, one answer behind the other. */
    static String look(LineOrigins x) {
        StringBuilder all = new StringBuilder();
        for (int what = 0; what <= 8; what++) {
            all.append(x.count(what)).append(' ');
        }
        for (int r = 0; r < x.count(0); r++) {
            lookAt(x, r, all);
        }
        return all.append("unseen ").append(x.unseen()).toString();
    }

    private static void lookAt(LineOrigins x, int r, StringBuilder all) {
        all.append("| R").append(r).append(' ');
        for (int what = 0; what <= 3; what++) {
            all.append(x.revision(r, what)).append(' ');
        }
        all.append(x.common(r, 0)).append(' ').append(x.common(r, 1)).append(' ');
        for (int other = 0; other < x.count(0); other++) {
            all.append(x.begun(r, other)).append(' ').append(x.kept(r, other)).append(' ');
        }
        for (int k = 0; k < x.revision(r, 0); k++) {
            lookAtLine(x, r, k, all);
        }
    }

    private static void lookAtLine(LineOrigins x, int r, int k, StringBuilder all) {
        all.append(", ");
        for (int what = 0; what <= 6; what++) {
            all.append(x.line(r, k, what)).append(' ');
        }
        for (int rule = 0; rule <= 3; rule++) {
            all.append(x.gives(rule, r, k)).append(' ');
        }
        all.append(x.age(r, k)).append(' ').append(x.carried(r, k)).append(' ');
        for (int other = 0; other < x.count(0); other++) {
            all.append(x.like(r, k, other)).append(' ');
        }
    }
}
