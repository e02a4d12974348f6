/** Promises 5 and 6: revision and line. */
public final class RevisionTest {
    private static final Check CHECK = new Check("RevisionTest");

    public static void main(String[] args) {
        revision();
        badRevision();
        lettersAndPairs();
        ties();
        tracedThroughAMerge();
        badLine();
        eightByEight();
        CHECK.end();
    }

    private static void revision(LineOrigins x, int r, int... due) {
        for (int what = 0; what < due.length; what++) {
            CHECK.due("revision(" + r + ", " + what + ")", x.revision(r, what), due[what]);
        }
    }

    private static void revision() {
        LineOrigins x = Check.told("R:abc;R0:;R1 0:ab;R2:abcdefgh;");
        revision(x, 0, 3, LineOrigins.NONE, LineOrigins.NONE, 0);
        revision(x, 1, 0, 0, LineOrigins.NONE, 0);
        revision(x, 2, 2, 1, 0, 0);
        revision(x, 3, 8, 2, LineOrigins.NONE, 0);
        x.passes(1);
        revision(x, 1, 0, 0, LineOrigins.NONE, 1);
        revision(x, 2, 2, 1, 0, 0);
    }

    private static void badRevision() {
        LineOrigins x = Check.told("R:abc;R0:;");
        int[][] wrong = {{2, 0}, {-1, 0}, {0, 4}, {0, -1}, {8, 0}, {9, 9}, {Integer.MAX_VALUE, 0},
            {Integer.MIN_VALUE, 0}, {0, Integer.MIN_VALUE}, {0, Integer.MAX_VALUE}};
        for (int[] call : wrong) {
            CHECK.due("revision(" + call[0] + ", " + call[1] + ")", x.revision(call[0], call[1]), LineOrigins.BAD);
        }
    }

    private static void pairs(String parent, String lines, int... due) {
        LineOrigins x = Check.told("R:" + parent + ";R0:" + lines + ";R:;R2 0:" + lines + ";");
        for (int k = 0; k < due.length; k++) {
            String call = "PAIR of " + lines + ", " + k + " in " + parent;
            CHECK.due("letter: " + call, x.line(1, k, 0), lines.charAt(k));
            CHECK.due("first: " + call, x.line(1, k, 1), due[k]);
            CHECK.due("no second: " + call, x.line(1, k, 2), LineOrigins.NONE);
            CHECK.due("none in the first: " + call, x.line(3, k, 1), LineOrigins.NONE);
            CHECK.due("second: " + call, x.line(3, k, 2), due[k]);
        }
    }

    private static void lettersAndPairs() {
        int none = LineOrigins.NONE;
        pairs("abcd", "xabd", none, 0, 1, 3);
        pairs("abcd", "cdab", 2, 3, none, none);
        pairs("abc", "abc", 0, 1, 2);
        pairs("abc", "xyz", none, none, none);
        pairs("", "ab", none, none);
        pairs("ab", "");
        pairs("abcdefgh", "hgfedcba", 7, none, none, none, none, none, none, none);
    }

    private static void ties() {
        int none = LineOrigins.NONE;
        // COMMON is 1 on both ways: the PARENT's LINE is passed over.
        pairs("ab", "ba", 1, none);
        pairs("abc", "bac", 1, none, 2);
        // Like letters are paired at once, the first with the first.
        pairs("aaa", "a", 0);
        pairs("a", "aaa", 0, none, none);
        pairs("aab", "ab", 0, 2);
        pairs("abab", "ba", 1, 2);
    }

    private static void line(LineOrigins x, int r, int k, int... due) {
        for (int what = 0; what < due.length; what++) {
            CHECK.due("line(" + r + ", " + k + ", " + what + ")", x.line(r, k, what), due[what]);
        }
    }

    private static void tracedThroughAMerge() {
        int none = LineOrigins.NONE;
        LineOrigins x = Check.told("R:ab;R0:axb;R0:aby;R1 2:axbyz;R3:zyq;");
        line(x, 0, 0, 'a', none, none, none, 0, 0, 0);
        line(x, 1, 1, 'x', none, none, none, 1, 1, 0);
        line(x, 2, 1, 'b', 1, none, 0, 0, 1, 1);
        line(x, 3, 0, 'a', 0, 0, 0, 0, 0, 2);
        line(x, 3, 1, 'x', 1, none, 0, 1, 1, 1);
        line(x, 3, 2, 'b', 2, 1, 0, 0, 1, 2);
        line(x, 3, 3, 'y', none, 2, 1, 2, 2, 1);
        line(x, 3, 4, 'z', none, none, none, 3, 4, 0);
        line(x, 4, 0, 'z', 4, none, 0, 3, 4, 1);
        line(x, 4, 1, 'y', none, none, none, 4, 1, 0);
        x.blocks(1);
        line(x, 4, 1, 'y', none, none, 2, 2, 2, 2);
        line(x, 4, 2, 'q', none, none, none, 4, 2, 0);
        x.passes(4);
        line(x, 4, 2, 'q', none, none, none, 4, 2, 0);
        x.blocks(0);
        line(x, 4, 1, 'y', none, none, none, 4, 1, 0);
    }

    private static void badLine() {
        LineOrigins x = Check.told("R:abc;R0:;R1:abcdefgh;");
        int[][] wrong = {{3, 0, 0}, {-1, 0, 0}, {0, 3, 0}, {0, -1, 0}, {1, 0, 0}, {2, 8, 0}, {0, 0, 7}, {0, 0, -1},
            {0, Integer.MAX_VALUE, 0}, {0, Integer.MIN_VALUE, 0}, {Integer.MIN_VALUE, 0, 0}, {0, 0, Integer.MIN_VALUE},
            {0, 8, 4}, {Integer.MAX_VALUE, Integer.MAX_VALUE, 4}};
        for (int[] call : wrong) {
            CHECK.due("line(" + call[0] + ", " + call[1] + ", " + call[2] + ")", x.line(call[0], call[1], call[2]),
                    LineOrigins.BAD);
        }
    }

    /** The eighth REVISION's eighth LINE, seven STEPS from where it began. */
    private static void eightByEight() {
        LineOrigins x = Check.told("R:abcdefgh;R0:abcdefgh;R1:abcdefgh;R2:abcdefgh;"
                + "R3:abcdefgh;R4:abcdefgh;R5:abcdefgh;R6:abcdefgh;");
        for (int k = 0; k < 8; k++) {
            line(x, 7, k, 'a' + k, k, LineOrigins.NONE, 0, 0, k, 7);
        }
        x.rules(0);
        line(x, 7, 7, 'h', 7, LineOrigins.NONE, LineOrigins.NONE, 7, 7, 0);
    }
}
