/** The edges that the document names: promises 18 to 20 and 23. A method a sentence. */
public final class EdgesOfSightsTest {
    private static final Check CHECK = new Check("EdgesOfSightsTest");
    private static final int BAD = LineOrigins.BAD, STATE = LineOrigins.STATE, FULL = LineOrigins.FULL;
    private static final String TEXT = "R:abc;R0:axc;R1:ayc;";

    public static void main(String[] args) {
        seenHowMuch();
        seenFull();
        seenBad();
        badAheadOfFull();
        seenWasOrWasNot();
        seenTheSameAgain();
        seenIsNoChange();
        forgetTellsHowMuch();
        forgetLeavesAllElse();
        unseenOfNothingSeen();
        unseenPassedOrNotAnyMore();
        unseenOfAllThatWasSeen();
        unseenByNone();
        unseenOfEight();
        unseenOfOneThatGivesNothing();
        unseenAsThingsAreNow();
        countRevisions();
        countSettings();
        countLines();
        countSeenLettersUndone();
        countBad();
        CHECK.end();
    }

    private static Run run(String sentence) {
        return new Run(CHECK, sentence).told(TEXT);
    }

    private static void seenHowMuch() {
        Run run = run("18: SEEN: how much there is").due("count(6)", 0);
        for (int number = 1; number <= 6; number++) {
            run.due("sees(2, 1, 0, " + number % 2 + ")", number).due("count(6)", number);
        }
    }

    private static Run six() {
        Run run = run("18: SEEN (6 at most), FULL");
        for (int i = 0; i < 5; i++) {
            run.then("sees(0, 0, 0, 1)");
        }
        return run.due("count(6)", 5).due("sees(1, 1, 1, 0)", 6);
    }

    private static void seenFull() {
        six().leaves("sees(0, 0, 0, 1)", FULL).leaves("sees(2, 1, 2, 0)", FULL).due("count(6)", 6).due("unseen()", 2)
                .due("forget()", 6).due("sees(2, 1, 2, 0)", 1).due("unseen()", 4);
    }

    private static void seenBad() {
        Run run = run("18: BAD").then("sees(1, 1, 0, 1)");
        seenBad(run);
        run.due("sees(2, 2, 2, 0)", 2).due("sees(0, 0, 0, 1)", 3);
        new Run(CHECK, "18: BAD, a REVISION without LINES").told("R:;R:a;").leaves("sees(0, 0, 0, 0)", BAD)
                .due("sees(1, 0, 0, 0)", 1);
    }

    private static void seenBad(Run run) {
        String[] wrong = {
            "3, 0, 0, 0", "-1, 0, 0, 0", "0, 3, 0, 0", "0, -1, 0, 0", "0, 0, 3, 0", "0, 0, -1, 0", "0, 0, 0, 2",
            "0, 0, 0, -1", "8, 0, 0, 0", "0, 8, 0, 0", "0, 0, 8, 0", "3, 3, 3, 3", "0, 0, 0, 2147483647",
            "0, 0, 0, -2147483648"
        };
        for (String numbers : wrong) {
            run.leaves("sees(" + numbers + ")", BAD);
        }
    }

    private static void badAheadOfFull() {
        Run run = six();
        seenBad(run);
        run.leaves("sees(0, 0, 0, 0)", FULL);
    }

    private static void seenWasOrWasNot() {
        run("SEEN: the ORIGIN of a LINE was of a REVISION (1)").then("sees(2, 1, 1, 1)").due("unseen()", 4);
        run("SEEN: or was not (0)").then("sees(2, 1, 1, 0)").due("unseen()", 3);
        run("SEEN: was of its own").then("sees(2, 1, 2, 1)").due("unseen()", 3);
        run("SEEN: was not of its own").then("sees(2, 1, 2, 0)").due("unseen()", 4);
    }

    private static void seenTheSameAgain() {
        run("SEEN: the same again is more").due("sees(2, 1, 1, 1)", 1).due("sees(2, 1, 1, 1)", 2).due("unseen()", 4)
                .due("sees(2, 1, 1, 0)", 3).due("unseen()", 0);
    }

    private static void seenIsNoChange() {
        run("SEEN is not UNDONE").then("sees(2, 1, 1, 1)").leaves("undo()", STATE)
                .then("blocks(1)", "sees(0, 0, 0, 1)").due("undo()", 0).due("count(6)", 2);
    }

    private static void forgetTellsHowMuch() {
        run("19: Nothing is SEEN: how much was").leaves("forget()", 0).then("sees(0, 0, 0, 1)").due("forget()", 1)
                .leaves("forget()", 0).due("count(6)", 0);
        six().due("forget()", 6).leaves("forget()", 0).due("sees(0, 0, 0, 1)", 1);
    }

    private static void forgetLeavesAllElse() {
        run("19: nothing else is changed").type("R").then("blocks(1)", "passes(1)", "keep(0)", "sees(2, 1, 1, 1)")
                .due("forget()", 1).row("count(%)", 3, 1, 2, 15, 9, 4, 0, 1, 2).due("unseen()", 7).due("undo()", 1)
                .due("back(0)", 1);
    }

    private static void unseenOfNothingSeen() {
        new Run(CHECK, "20: no REVISIONS").leaves("unseen()", 0);
        new Run(CHECK, "20: nothing SEEN, one REVISION").told("R:;").leaves("unseen()", 1);
        run("20: nothing SEEN, all REVISIONS").leaves("unseen()", 7);
        new Run(CHECK, "20: nothing SEEN, eight REVISIONS").told("R:;".repeat(8)).leaves("unseen()", 255);
    }

    private static void unseenPassedOrNotAnyMore() {
        run("SEEN: one unknown REVISION being PASSED").then("sees(1, 1, 0, 1)").leaves("unseen()", 2)
                .due("count(2)", 0);
        run("SEEN: or not any more (the other way round than now)").then("passes(1)", "sees(1, 1, 1, 1)")
                .leaves("unseen()", 2).due("count(2)", 2).due("line(1, 1, 4)", 0);
        run("SEEN: with 1 PASSED, another one").then("passes(1)", "sees(1, 1, 0, 1)").leaves("unseen()", 5);
    }

    private static void unseenOfAllThatWasSeen() {
        run("UNSEEN: REVISIONS by which all that was SEEN is so").then("sees(2, 1, 0, 0)").due("unseen()", 7)
                .then("sees(1, 1, 1, 1)").due("unseen()", 5).then("sees(2, 1, 2, 0)").due("unseen()", 4)
                .then("sees(2, 1, 1, 1)").due("unseen()", 4).then("sees(2, 1, 1, 0)").due("unseen()", 0);
        // The sixth counts as the first one does.
        six().due("unseen()", 2);
        Run run = run("UNSEEN: the first of six").then("sees(2, 1, 1, 1)");
        for (int i = 0; i < 5; i++) {
            run.then("sees(0, 0, 0, 1)");
        }
        run.due("unseen()", 4);
    }

    private static void unseenByNone() {
        run("UNSEEN: by none").then("sees(0, 0, 1, 1)").leaves("unseen()", 0).then("forget()").leaves("unseen()", 7);
        run("UNSEEN: by none that would change it, as now it is so").then("passes(1)", "passes(2)")
                .due("line(2, 1, 4)", 0).then("sees(2, 1, 0, 1)", "sees(1, 1, 0, 1)").leaves("unseen()", 1);
    }

    private static void unseenOfEight() {
        String text = "R:a;R0:b;R1:c;R2:d;R3:e;R4:f;R5:g;R6:h;";
        new Run(CHECK, "UNSEEN: the eighth REVISION").told(text).then("sees(7, 0, 7, 0)").leaves("unseen()", 128)
                .then("sees(7, 0, 6, 1)").leaves("unseen()", 128);
        new Run(CHECK, "UNSEEN: all but the eighth").told(text).then("sees(7, 0, 7, 1)").leaves("unseen()", 127);
    }

    private static void unseenOfOneThatGivesNothing() {
        // The first REVISION has no PARENTS: that it is PASSED changes no ORIGIN.
        run("UNSEEN: a REVISION by which nothing changes").then("sees(1, 1, 1, 1)", "sees(2, 1, 2, 1)")
                .leaves("unseen()", 1);
    }

    private static void unseenAsThingsAreNow() {
        run("UNSEEN as things are NOW").then("sees(2, 1, 0, 1)").due("unseen()", 0).then("passes(1)")
                .due("unseen()", 4)
                .then("rules(3)").due("unseen()", 0).then("undo()", "undo()").due("unseen()", 0).then("passes(2)")
                .due("unseen()", 2).due("count(6)", 1);
        new Run(CHECK, "UNSEEN by BLOCK as it is NOW").told("R:abcd;R0:cdab;").then("blocks(0)", "sees(1, 2, 0, 1)")
                .due("unseen()", 0).then("blocks(2)").due("unseen()", 3);
    }

    private static void countRevisions() {
        new Run(CHECK, "23: 0 REVISIONS").due("count(0)", 0).told("R:;").due("count(0)", 1).told("R:;".repeat(7))
                .due("count(0)", 7).told("R:;".repeat(8)).due("count(0)", 8);
    }

    private static void countSettings() {
        Run run = new Run(CHECK, "23: 1 BLOCK, 2 PASSED ones (bits), 3 RULES that are on (bits)")
                .told("R:;".repeat(8));
        for (int n : new int[] {0, 1, 2, 3, 4}) {
            run.then("blocks(" + n + ")").due("count(1)", n);
        }
        run.then("passes(0)").due("count(2)", 1).then("passes(7)").due("count(2)", 129).then("rules(0)")
                .due("count(3)", 14)
                .then("rules(3)").due("count(3)", 6).then("rules(1)", "rules(2)").due("count(3)", 0);
    }

    private static void countLines() {
        new Run(CHECK, "23: 4 LINES of all, 5 their own ORIGIN: none").told("R:;R0:;").due("count(4)", 0)
                .due("count(5)", 0);
        StringBuilder text = new StringBuilder("R:abcdefgh;");
        for (int r = 1; r < 8; r++) {
            text.append("R").append(r - 1).append(":abcdefgh;");
        }
        new Run(CHECK, "23: 4 LINES of all, 5 their own ORIGIN: 64").told(text.toString()).due("count(4)", 64)
                .due("count(5)", 8).then("rules(0)").due("count(5)", 64).then("rules(0)").due("count(5)", 8);
        run("23: 5 as things are NOW").due("count(4)", 9).due("count(5)", 5).then("passes(1)").due("count(5)", 4)
                .then("passes(2)").due("count(5)", 3).then("rules(3)").due("count(5)", 5);
    }

    private static void countSeenLettersUndone() {
        six().due("count(6)", 6).type("R").due("count(7)", 1).type(" ".repeat(119)).due("count(7)", 120)
                .leaves("type(32)", FULL).due("count(7)", 120);
        Run run = run("23: 8 how many may be UNDONE").due("count(8)", 0);
        for (int i = 1; i <= 12; i++) {
            run.then("rules(1)").due("count(8)", Math.min(10, i));
        }
        run.then("undo()").due("count(8)", 9);
    }

    private static void countBad() {
        run("23: BAD").then("blocks(1)").leaves("count(-1)", BAD).leaves("count(9)", BAD)
                .leaves("count(2147483647)", BAD)
                .leaves("count(-2147483648)", BAD).leaves("count(0)", 3).leaves("count(8)", 1);
    }
}
