/** The edges that the document names: COMMON, PAIRS, RULES, ORIGIN; promises 5, 6, 11 and 17. A method a sentence. */
public final class EdgesOfRulesTest {
    private static final Check CHECK = new Check("EdgesOfRulesTest");
    private static final int BAD = LineOrigins.BAD, NONE = LineOrigins.NONE;

    public static void main(String[] args) {
        commonOfAll();
        noSuchParent();
        pairsAlike();
        pairsPassedOver();
        pairsTillOneSideIsOver();
        linesOfRevisionsWithParents();
        firstAndSecond();
        secondIfThereIsOne();
        movedIfBlockIsAbove0();
        movedBlockLongOrLonger();
        movedWithoutPair();
        movedSideBySide();
        movedNoneOfTheParentsWithPair();
        movedLongest();
        movedLowestOfTheParents();
        movedThenOfTheRevisions();
        movedInTheFirstParent();
        movedAtBothEnds();
        passedIfPassed();
        passedFromTheBeginning();
        passedBehindThePairAhead();
        passedHasNoPair();
        passedNoneBetween();
        passedBehindTheLast();
        passedInTheFirstParent();
        passedAndALineWithAPair();
        firstOneThatIsOn();
        givesOnOrNot();
        originItself();
        stepsAtMost();
        revisionOfWhat();
        lineOfWhat();
        refusedOnes();
        CHECK.end();
    }

    private static Run run(String sentence, String text) {
        return new Run(CHECK, sentence + ", " + text).told(text);
    }

    private static Run commonOf(String parent, String lines, int due) {
        String sentence = "17: COMMON, how many LINES at most can be paired";
        return run(sentence, "R:" + parent + ";R0:" + lines + ";R:;R2 0:" + lines + ";").due("common(1, 0)", due)
                .due("common(3, 1)", due).due("common(3, 0)", 0).due("common(1, 1)", NONE);
    }

    private static void commonOfAll() {
        commonOf("", "", 0);
        commonOf("", "abcdefgh", 0);
        commonOf("abcdefgh", "", 0);
        commonOf("abcd", "efgh", 0);
        commonOf("abcdefgh", "hgfedcba", 1);
        commonOf("a", "aaaaaaaa", 1);
        commonOf("aaaaaaaa", "a", 1);
        commonOf("abcdefgh", "bcdefgha", 7);
        commonOf("abcdefgh", "abcdefgh", 8);
        commonOf("aaaaaaaa", "aaaaaaaa", 8);
        commonOf("abab", "baba", 3);
        // Of each REVISION for itself, be the one ahead of it as wide and as deep as it can be.
        run("17: COMMON of each for itself", "R:abcdefgh;R0:abcdefgh;R0 1:h;R1 0:;R2:abcdefgh;R3:abcdefgh;R0 4:ha;")
                .row("common(%, 0)", NONE, 8, 1, 0, 1, 0, 1).row("common(%, 1)", NONE, NONE, 1, 0, NONE, NONE, 1);
    }

    private static void noSuchParent() {
        run("17: NONE: there is no such PARENT", "R:ab;R0:ab;R0 1:ab;").row("common(0, %)", NONE, NONE)
                .row("common(1, %)", 2, NONE).row("common(2, %)", 2, 2).leaves("common(0, 2)", BAD)
                .leaves("common(0, -1)", BAD).leaves("common(1, 2)", BAD).leaves("common(2, 2)", BAD)
                .leaves("common(2, -1)", BAD).leaves("common(3, 0)", BAD).leaves("common(-1, 0)", BAD);
    }

    private static void pairs(String sentence, String parent, String lines, int... due) {
        run(sentence, "R:" + parent + ";R0:" + lines + ";R:;R2 0:" + lines + ";")
                .row("line(1, %, 1)", due).row("line(3, %, 2)", due).row("gives(0, 1, %)", due)
                .row("gives(1, 3, %)", due);
    }

    private static void pairsAlike() {
        String sentence = "PAIRS: if both LINES are alike, they are a PAIR, then both next";
        pairs(sentence, "a", "a", 0);
        pairs(sentence, "a", "b", NONE);
        pairs(sentence, "abcdefgh", "abcdefgh", 0, 1, 2, 3, 4, 5, 6, 7);
        pairs(sentence, "aab", "ab", 0, 2);
        pairs(sentence, "abb", "ab", 0, 1);
        pairs(sentence, "ab", "aab", 0, NONE, 1);
        pairs(sentence, "ab", "abb", 0, 1, NONE);
    }

    private static void pairsPassedOver() {
        String sentence = "PAIRS: if COMMON of i and 1, j is no less, i is passed over, else j";
        pairs(sentence + " (as much)", "ab", "ba", 1, NONE);
        pairs(sentence + " (as much)", "abcqrs", "qrsabc", 3, 4, 5, NONE, NONE, NONE);
        pairs(sentence + " (one more)", "xab", "ab", 1, 2);
        pairs(sentence + " (one less)", "ab", "xab", NONE, 0, 1);
        pairs(sentence + " (one less)", "abc", "cab", NONE, 0, 1);
        pairs(sentence + " (one more)", "cab", "abc", 1, 2, NONE);
        pairs(sentence + " (nothing alike)", "abc", "xyz", NONE, NONE, NONE);
        pairs(sentence + " (as much, then as much)", "abc", "cba", 2, NONE, NONE);
    }

    private static void pairsTillOneSideIsOver() {
        String sentence = "PAIRS: till one side is over";
        pairs(sentence, "", "ab", NONE, NONE);
        pairs(sentence, "ab", "");
        pairs(sentence, "a", "aaa", 0, NONE, NONE);
        pairs(sentence, "aaa", "a", 0);
        pairs(sentence, "abcdefgh", "h", 7);
        pairs(sentence, "h", "abcdefgh", NONE, NONE, NONE, NONE, NONE, NONE, NONE, 0);
        pairs(sentence, "aaaaaaaa", "aaaaaaaa", 0, 1, 2, 3, 4, 5, 6, 7);
    }

    private static void linesOfRevisionsWithParents() {
        Run run = run("RULES, tried on a LINE of a REVISION that has PARENTS", "R:ab;R:ab;R0:ab;")
                .then("blocks(1)", "passes(0)", "passes(1)", "passes(2)");
        for (int k = 0; k < 2; k++) {
            run.row("gives(%, 0, " + k + ")", NONE, NONE, NONE, NONE)
                    .row("gives(%, 1, " + k + ")", NONE, NONE, NONE, NONE)
                    .due("line(1, " + k + ", 3)", NONE).due("line(1, " + k + ", 4)", 1)
                    .due("line(1, " + k + ", 6)", 0).due("line(2, " + k + ", 3)", 0);
        }
    }

    private static void firstAndSecond() {
        run("0 FIRST: its PAIR in the first PARENT. 1 SECOND: its PAIR in the second one",
                "R:ab;R:bc;R0 1:abc;R1 0:abc;")
                .row("gives(0, 2, %)", 0, 1, NONE).row("gives(1, 2, %)", NONE, 8, 9)
                .row("gives(0, 3, %)", NONE, 8, 9).row("gives(1, 3, %)", 0, 1, NONE)
                .row("line(2, %, 3)", 0, 0, 1).row("line(3, %, 3)", 1, 0, 0)
                .row("line(2, %, 4)", 0, 0, 1).row("line(3, %, 4)", 0, 1, 1);
    }

    private static void secondIfThereIsOne() {
        run("1 SECOND (if there is one)", "R:ab;R0:ab;R0 1:ab;").row("gives(1, 0, %)", NONE, NONE)
                .row("gives(1, 1, %)", NONE, NONE).row("gives(1, 2, %)", 8, 9).row("line(1, %, 2)", NONE, NONE)
                .row("line(2, %, 2)", 0, 1);
    }

    private static void movedIfBlockIsAbove0() {
        run("2 MOVED: if BLOCK is above 0", "R:abcd;R0:cdab;").row("gives(2, 1, %)", NONE, NONE, 0, 1)
                .due("blocks(0)", 2).row("gives(2, 1, %)", NONE, NONE, NONE, NONE)
                .row("line(1, %, 3)", 0, 0, NONE, NONE)
                .due("blocks(1)", 0).row("gives(2, 1, %)", NONE, NONE, 0, 1).row("line(1, %, 3)", 0, 0, 2, 2);
    }

    private static void movedBlockLongOrLonger() {
        String sentence = "2 MOVED: if it is BLOCK long or longer";
        String[] texts = {"R:ab;R0:ba;", "R:abcd;R0:cdab;", "R:abcqrs;R0:qrsabc;", "R:abcdqrst;R0:qrstabcd;"};
        for (int length = 1; length <= 4; length++) {
            Run run = run(sentence, texts[length - 1]);
            for (int block = 0; block <= 4; block++) {
                run.then("blocks(" + block + ")");
                boolean gives = block > 0 && block <= length;
                for (int k = 0; k < length; k++) {
                    run.due("gives(2, 1, " + k + ")", NONE).due("gives(2, 1, " + (length + k) + ")", gives ? k : NONE)
                            .due("line(1, " + (length + k) + ", 3)", gives ? 2 : NONE);
                }
            }
        }
    }

    private static void movedWithoutPair() {
        run("2 MOVED: it has no PAIR in the first PARENT", "R:aba;R0:ab;R0:aab;").then("blocks(1)")
                // The second a of the PARENT has no PAIR, but the a of the REVISION has one.
                .row("line(1, %, 1)", 0, 1).row("gives(2, 1, %)", NONE, NONE)
                .row("line(2, %, 1)", 0, 2, NONE).row("gives(2, 2, %)", NONE, NONE, 1);
        run("2 MOVED: a PAIR in the second PARENT is no hindrance", "R:abqrs;R:ab;R0 1:qrsab;")
                .row("gives(1, 2, %)", NONE, NONE, NONE, 8, 9).row("gives(2, 2, %)", NONE, NONE, NONE, 0, 1)
                .row("line(2, %, 3)", 0, 0, 0, 1, 1);
        run("2 MOVED: rows of LINES none with a PAIR", "R:abqrsb;R0:qrsab;")
                // The b of the REVISION has a PAIR, so a stands in a row of one.
                .row("line(1, %, 1)", 2, 3, 4, NONE, 5).row("gives(2, 1, %)", NONE, NONE, NONE, NONE, NONE)
                .then("blocks(1)").row("gives(2, 1, %)", NONE, NONE, NONE, 0, NONE);
    }

    private static void movedSideBySide() {
        run("2 MOVED: rows of LINES side by side", "R:abqrs;R0:qrsaxb;R0:qrsba;")
                .row("gives(2, 1, %)", NONE, NONE, NONE, NONE, NONE, NONE)
                .row("gives(2, 2, %)", NONE, NONE, NONE, NONE, NONE)
                .then("blocks(1)").row("gives(2, 1, %)", NONE, NONE, NONE, 0, NONE, 1)
                .row("gives(2, 2, %)", NONE, NONE, NONE, 1, 0);
        run("2 MOVED: the PARENT's LINES side by side", "R:axbqrs;R0:qrsab;")
                .row("gives(2, 1, %)", NONE, NONE, NONE, NONE, NONE)
                .then("blocks(1)").row("gives(2, 1, %)", NONE, NONE, NONE, 0, 2);
    }

    private static void movedNoneOfTheParentsWithPair() {
        run("2 MOVED: a row of LINES of the first PARENT, none with a PAIR", "R:abqr;R0:bqrab;")
                .row("line(1, %, 1)", 1, 2, 3, NONE, NONE).row("gives(2, 1, %)", NONE, NONE, NONE, NONE, NONE)
                .then("blocks(1)").row("gives(2, 1, %)", NONE, NONE, NONE, 0, NONE);
    }

    private static void movedLongest() {
        run("2 MOVED: the longest one", "R:axabqrs;R0:qrsab;").row("gives(2, 1, %)", NONE, NONE, NONE, 2, 3)
                .then("blocks(1)").row("gives(2, 1, %)", NONE, NONE, NONE, 2, 3);
        run("2 MOVED: the longest one, this LINE among them", "R:bxabqrs;R0:qrsab;").then("blocks(1)")
                .row("gives(2, 1, %)", NONE, NONE, NONE, 2, 3);
        run("2 MOVED: the longest one that has this LINE", "R:abxaqrst;R0:qrstaab;").then("blocks(1)")
                .row("gives(2, 1, %)", NONE, NONE, NONE, NONE, 0, 0, 1);
    }

    private static void movedLowestOfTheParents() {
        String sentence = "2 MOVED: of several as long that with the lowest LINE of the PARENT's row";
        run(sentence, "R:ababqrst;R0:qrstab;").row("gives(2, 1, %)", NONE, NONE, NONE, NONE, 0, 1);
        // The b is the second LINE of a row behind, and the first one of a row that begins lower in the PARENT.
        run(sentence, "R:baxabqrs;R0:qrsaba;").row("gives(2, 1, %)", NONE, NONE, NONE, 3, 0, 1);
        run(sentence, "R:abxbaqrs;R0:qrsaba;").row("gives(2, 1, %)", NONE, NONE, NONE, 0, 1, 4);
    }

    private static void movedThenOfTheRevisions() {
        String sentence = "2 MOVED: then of the REVISION's";
        run(sentence, "R:aaqrst;R0:qrstaaa;").row("gives(2, 1, %)", NONE, NONE, NONE, NONE, 0, 1, 1);
        run(sentence, "R:aaqrst;R0:qrstaaaa;").row("gives(2, 1, %)", NONE, NONE, NONE, NONE, 0, 1, 1, 1);
        // Rows with a LINE each are as long: both are given.
        run(sentence, "R:abqrst;R0:qrstabab;").row("gives(2, 1, %)", NONE, NONE, NONE, NONE, 0, 1, 0, 1);
    }

    private static void movedInTheFirstParent() {
        run("2 MOVED: of the first PARENT", "R:qrs;R:abqrs;R0 1:qrsab;R1 0:qrsab;")
                .row("gives(2, 2, %)", NONE, NONE, NONE, NONE, NONE).row("gives(2, 3, %)", NONE, NONE, NONE, 8, 9)
                .row("line(2, %, 4)", 0, 0, 0, 2, 2).row("line(3, %, 4)", 1, 1, 1, 1, 1);
    }

    private static void movedAtBothEnds() {
        run("2 MOVED: from the PARENT's last LINES to the REVISION's first", "R:qrsab;R0:abqrs;")
                .row("gives(2, 1, %)", 3, 4, NONE, NONE, NONE);
        run("2 MOVED: from the eighth LINE", "R:bcdefgha;R0:abcdefgh;").then("blocks(1)")
                .row("gives(2, 1, %)", 7, NONE, NONE, NONE, NONE, NONE, NONE, NONE);
        run("2 MOVED: to the eighth LINE", "R:abcdefgh;R0:bcdefgha;").then("blocks(1)")
                .row("gives(2, 1, %)", NONE, NONE, NONE, NONE, NONE, NONE, NONE, 0);
        run("2 MOVED: a PARENT without LINES", "R:;R0:ab;").then("blocks(1)").row("gives(2, 1, %)", NONE, NONE);
    }

    private static void passedIfPassed() {
        run("3 PASSED: if the REVISION is PASSED", "R:abc;R0:axc;R1:ayc;").due("gives(3, 1, 1)", NONE)
                .due("passes(1)", 1)
                .due("gives(3, 1, 1)", 1).due("gives(3, 2, 1)", NONE).due("line(2, 1, 4)", 2).due("passes(2)", 1)
                .due("gives(3, 2, 1)", 9).due("line(2, 1, 4)", 0).due("line(2, 1, 6)", 2).due("passes(1)", 0)
                .due("gives(3, 1, 1)", NONE).due("gives(3, 2, 1)", 9).due("line(2, 1, 4)", 1);
        run("3 PASSED: that a PARENT is PASSED gives nothing", "R:abc;R0:axc;").then("passes(0)")
                .due("gives(3, 1, 1)", NONE);
    }

    private static void passed(String sentence, String parent, String lines, int... due) {
        run("3 PASSED: " + sentence, "R:" + parent + ";R0:" + lines + ";").then("passes(1)")
                .row("gives(3, 1, %)", due);
    }

    private static void passedFromTheBeginning() {
        String sentence = "the PAIR ahead of it (the beginning)";
        passed(sentence, "abc", "xbc", 0, NONE, NONE);
        passed(sentence, "abc", "xyc", 0, 1, NONE);
        passed(sentence, "abc", "xyz", 0, 1, 2);
        passed(sentence, "abcdefgh", "stuvwxyz", 0, 1, 2, 3, 4, 5, 6, 7);
    }

    private static void passedBehindThePairAhead() {
        String sentence = "as many LINES behind the PAIR ahead of it in the first PARENT as it is in the REVISION";
        passed(sentence, "abc", "axc", NONE, 1, NONE);
        passed(sentence, "abcd", "axyd", NONE, 1, 2, NONE);
        passed(sentence + ", the nearest PAIR", "abcd", "abxd", NONE, NONE, 2, NONE);
        // b is the second LINE of the PARENT: c is one behind it, and not the LINE with the number of x.
        passed(sentence, "abcde", "bxde", 0, 2, NONE, NONE);
        passed(sentence, "bcde", "abxde", NONE, NONE, 1, NONE, NONE);
    }

    private static void passedHasNoPair() {
        String sentence = "if that LINE has no PAIR";
        passed(sentence, "ab", "xab", NONE, NONE, NONE);
        passed(sentence, "acd", "axcd", NONE, NONE, NONE, NONE);
        passed(sentence, "abd", "axyd", NONE, 1, NONE, NONE);
        passed(sentence, "abcd", "abcd", NONE, NONE, NONE, NONE);
    }

    private static void passedNoneBetween() {
        String sentence = "and none between";
        // The LINE of z is e, without a PAIR; d, which is between, has one.
        passed(sentence, "abdef", "axyzd", NONE, 1, NONE, NONE, NONE);
        passed(sentence, "def", "xyzd", NONE, NONE, NONE, NONE);
        passed(sentence, "defgh", "xyd", NONE, NONE, NONE);
    }

    private static void passedBehindTheLast() {
        String sentence = "(NONE, else), behind the PARENT's last LINE";
        passed(sentence, "", "x", NONE);
        passed(sentence, "a", "x", 0);
        passed(sentence, "a", "xy", 0, NONE);
        passed(sentence, "a", "ax", NONE, NONE);
        passed(sentence, "ab", "ax", NONE, 1);
        passed(sentence, "ab", "axy", NONE, 1, NONE);
        passed(sentence, "abcdefgh", "abcdefgx", NONE, NONE, NONE, NONE, NONE, NONE, NONE, 7);
        passed(sentence, "abcdefg", "abcdefgx", NONE, NONE, NONE, NONE, NONE, NONE, NONE, NONE);
        passed(sentence, "bcdefgha", "bcdefghx", NONE, NONE, NONE, NONE, NONE, NONE, NONE, 7);
        passed(sentence, "abcdefgh", "hxyzuvws", 0, NONE, NONE, NONE, NONE, NONE, NONE, NONE);
    }

    private static void passedInTheFirstParent() {
        run("3 PASSED: in the first PARENT", "R:;R:abc;R0 1:xbc;R1 0:xbc;").then("passes(2)", "passes(3)")
                .row("gives(3, 2, %)", NONE, NONE, NONE).row("gives(3, 3, %)", 8, NONE, NONE)
                .row("line(2, %, 4)", 2, 1, 1).row("line(3, %, 4)", 1, 1, 1);
    }

    /** The words ask of MOVED alone that the LINE has no PAIR of its own. */
    private static void passedAndALineWithAPair() {
        run("3 PASSED: a LINE with a PAIR of its own", "R:xab;R0:ab;").then("passes(1)")
                .row("gives(3, 1, %)", 0, NONE)
                .row("line(1, %, 3)", 0, 0).then("rules(0)").row("line(1, %, 3)", 3, NONE);
    }

    private static void firstOneThatIsOn() {
        String sentence = "the first one that is on and gives a LINE of a PARENT decides";
        // For a: PAIR 2 in the first PARENT, PAIR 0 in the second, PASSED would give LINE 1.
        run(sentence, "R:bxa;R:a;R0 1:ya;").then("blocks(1)", "passes(2)").due("line(2, 1, 3)", 0).then("rules(0)")
                .due("line(2, 1, 3)", 1).then("rules(1)").due("line(2, 1, 3)", 3).then("rules(3)")
                .due("line(2, 1, 3)", NONE).then("rules(0)").due("line(2, 1, 3)", 0).due("line(2, 1, 5)", 2);
        // For a: no PAIR in the first PARENT, but one in the second, MOVED from LINE 1, PASSED would give LINE 3.
        run(sentence, "R:xaqw;R:a;R0 1:xqa;").then("blocks(1)", "passes(2)").row("gives(%, 2, 2)", NONE, 8, 1, 3)
                .due("line(2, 2, 3)", 1).then("rules(1)").due("line(2, 2, 3)", 2).then("rules(2)")
                .due("line(2, 2, 3)", 3)
                .then("rules(3)").due("line(2, 2, 3)", NONE).then("rules(2)").due("line(2, 2, 3)", 2)
                .then("rules(3)", "rules(1)").due("line(2, 2, 3)", 1).then("blocks(0)", "rules(1)")
                .due("line(2, 2, 3)", 3);
    }

    private static void givesOnOrNot() {
        Run run = run("11: what a RULE (on or not) gives", "R:xaqw;R:a;R0 1:xqa;").then("blocks(1)", "passes(2)");
        for (int off = 0; off < 4; off++) {
            run.due("rules(" + off + ")", 0);
            run.row("gives(%, 2, 0)", 0, NONE, NONE, NONE).row("gives(%, 2, 1)", 2, NONE, NONE, 1)
                    .row("gives(%, 2, 2)", NONE, 8, 1, 3);
        }
        run.row("line(2, %, 3)", NONE, NONE, NONE);
        run("11: the PARENT's number by 8, and the LINE", "R:;R:;R:;R:;R:;R:;R:abcdefgh;R6:abcdefgh;")
                .row("gives(0, 7, %)", 48, 49, 50, 51, 52, 53, 54, 55);
    }

    private static void originItself() {
        run("ORIGIN of a LINE: itself, if no RULE gives one", "R:a;R0:b;R1:a;")
                .row("line(0, 0, %)", 'a', NONE, NONE, NONE, 0, 0, 0)
                .row("line(1, 0, %)", 'b', NONE, NONE, NONE, 1, 0, 0)
                .row("line(2, 0, %)", 'a', NONE, NONE, NONE, 2, 0, 0);
        run("ORIGIN: else the ORIGIN of what is given", "R:ab;R0:xab;R1:bxa;R2:cb;").then("blocks(1)")
                .row("line(2, 0, %)", 'b', NONE, NONE, 2, 0, 1, 2).row("line(3, 1, %)", 'b', 0, NONE, 0, 0, 1, 3)
                .row("line(3, 0, %)", 'c', NONE, NONE, NONE, 3, 0, 0).row("line(2, 1, %)", 'x', 0, NONE, 0, 1, 0, 1);
    }

    private static void stepsAtMost() {
        StringBuilder text = new StringBuilder("R:ab;");
        for (int r = 1; r < 8; r++) {
            text.append("R").append(r - 1).append(":ab;");
        }
        Run run = run("STEPS: how many are given on the way", text.toString());
        for (int r = 0; r < 8; r++) {
            run.due("line(" + r + ", 1, 6)", r).due("line(" + r + ", 1, 4)", 0).due("line(" + r + ", 1, 5)", 1);
        }
        run.then("rules(0)");
        for (int r = 0; r < 8; r++) {
            run.due("line(" + r + ", 1, 6)", 0).due("line(" + r + ", 1, 4)", r);
        }
        run("STEPS: through the first PARENT that gives, not the shortest way", "R:a;R0:a;R1:a;R2 0:a;R0 2:a;")
                .due("line(3, 0, 6)", 3).due("line(4, 0, 6)", 1);
    }

    private static void revisionOfWhat() {
        run("5: of a REVISION 0 LINES, 1 its first PARENT, 2 the second, 3 whether it is PASSED",
                "R:abcdefgh;R:;R1 0:a;R2:;")
                .row("revision(0, %)", 8, NONE, NONE, 0).row("revision(1, %)", 0, NONE, NONE, 0)
                .row("revision(2, %)", 1, 1, 0, 0).row("revision(3, %)", 0, 2, NONE, 0).leaves("revision(0, 4)", BAD)
                .leaves("revision(0, -1)", BAD).leaves("revision(4, 0)", BAD).leaves("revision(-1, 0)", BAD)
                .due("passes(3)", 1).row("revision(3, %)", 0, 2, NONE, 1).row("revision(2, %)", 1, 1, 0, 0)
                .due("passes(3)", 0).row("revision(3, %)", 0, 2, NONE, 0);
    }

    private static void lineOfWhat() {
        run("6: of a LINE 0 .. 6", "R:az;R0:z;R1:;").row("line(0, 0, %)", 'a', NONE, NONE, NONE, 0, 0, 0)
                .row("line(0, 1, %)", 'z', NONE, NONE, NONE, 0, 1, 0).row("line(1, 0, %)", 'z', 1, NONE, 0, 0, 1, 1)
                .leaves("line(0, 0, 7)", BAD).leaves("line(0, 0, -1)", BAD).leaves("line(0, 2, 0)", BAD)
                .leaves("line(0, -1, 0)", BAD).leaves("line(1, 1, 0)", BAD).leaves("line(2, 0, 0)", BAD)
                .leaves("line(3, 0, 0)", BAD).leaves("line(-1, 0, 0)", BAD);
    }

    private static void refusedOnes() {
        run("11: BAD", "R:az;R0:z;R1:;").leaves("gives(-1, 0, 0)", BAD).leaves("gives(4, 0, 0)", BAD)
                .leaves("gives(0, 0, 2)", BAD).leaves("gives(3, 0, -1)", BAD).leaves("gives(0, 2, 0)", BAD)
                .leaves("gives(0, 3, 0)", BAD).leaves("gives(3, -1, 0)", BAD).due("gives(0, 1, 0)", 1)
                .due("gives(3, 1, 0)", NONE);
    }
}
