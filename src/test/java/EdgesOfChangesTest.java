/** The edges that the document names: promises 7 to 10, 21 and 22. A method a sentence. */
public final class EdgesOfChangesTest {
    private static final Check CHECK = new Check("EdgesOfChangesTest");
    private static final int BAD = LineOrigins.BAD, STATE = LineOrigins.STATE, NONE = LineOrigins.NONE;
    private static final String TEXT = "R:abcd;R0:axcd;R1:cdaxq;";

    public static void main(String[] args) {
        blockFrom0To4();
        blockWasThat();
        blockAsItIs();
        passedOrNotAnyMore();
        passedOfEight();
        passesBad();
        ruledOffAndOn();
        rulesBad();
        undoneHowManyMore();
        undoneNone();
        undoneEachKind();
        undoneNotRefused();
        undoneLatestFirst();
        tenAreKnown();
        olderOnesAreLost();
        undoneThenMore();
        undoneIsNoChange();
        keepTellsBlock();
        keepChangesNothingElse();
        keepOverAnEarlierOne();
        backTellsBlock();
        backOfNoneKept();
        backBringsAllOfThat();
        backBringsNothingElse();
        nothingUndoneBehindBack();
        imagesOfAllAndOfNothing();
        imagesStay();
        badAheadOfState();
        CHECK.end();
    }

    private static Run run(String sentence) {
        return new Run(CHECK, sentence).told(TEXT);
    }

    private static void blockFrom0To4() {
        run("7: BLOCK (0 .. 4)").leaves("blocks(-1)", BAD).leaves("blocks(5)", BAD).leaves("blocks(2147483647)", BAD)
                .leaves("blocks(-2147483648)", BAD).leaves("blocks(8)", BAD).leaves("blocks(10)", BAD)
                .leaves("blocks(-6)", BAD).due("blocks(0)", 2).leaves("blocks(-1)", BAD).due("blocks(4)", 0)
                .leaves("blocks(5)", BAD).due("blocks(1)", 4).due("blocks(3)", 1).due("blocks(2)", 3);
    }

    private static void blockWasThat() {
        Run run = run("7: what it was");
        int was = 2;
        for (int n : new int[] {0, 1, 2, 3, 4, 0, 2, 4, 1, 3, 0, 3, 1, 4, 2, 0}) {
            run.due("blocks(" + n + ")", was).due("count(1)", n);
            was = n;
        }
    }

    private static void blockAsItIs() {
        Run run = run("7: STATE: it is that").leaves("blocks(2)", STATE).due("count(8)", 0);
        for (int n : new int[] {0, 1, 3, 4}) {
            run.then("blocks(" + n + ")").leaves("blocks(" + n + ")", STATE).due("count(1)", n);
        }
        run.due("count(8)", 4);
    }

    private static void passedOrNotAnyMore() {
        run("8: PASSED (1), or not any more (0)").due("passes(0)", 1).due("count(2)", 1).due("passes(2)", 1)
                .due("count(2)", 5)
                .due("passes(0)", 0).due("count(2)", 4).due("revision(2, 3)", 1).due("revision(0, 3)", 0)
                .due("passes(0)", 1).due("passes(2)", 0).due("count(2)", 1).due("count(8)", 5);
    }

    private static void passedOfEight() {
        Run run = new Run(CHECK, "8: each of eight REVISIONS").told("R:;".repeat(8));
        for (int r = 0; r < 8; r++) {
            run.due("passes(" + r + ")", 1).due("count(2)", (2 << r) - 1).due("revision(" + r + ", 3)", 1);
        }
        run.leaves("passes(8)", BAD).leaves("passes(-1)", BAD).leaves("passes(32)", BAD).due("count(2)", 255);
        for (int r = 0; r < 8; r++) {
            run.due("passes(" + r + ")", 0).due("count(2)", 255 - ((2 << r) - 1));
        }
    }

    private static void passesBad() {
        run("8: BAD").then("passes(1)").leaves("passes(3)", BAD).leaves("passes(-1)", BAD).leaves("passes(8)", BAD)
                .leaves("passes(33)", BAD).leaves("passes(-31)", BAD).leaves("passes(2147483647)", BAD)
                .leaves("passes(-2147483648)", BAD).due("passes(2)", 1);
    }

    private static void ruledOffAndOn() {
        Run run = run("9: RULED: on (1), off (0)");
        int on = 15;
        for (int rule : new int[] {0, 1, 2, 3, 3, 0, 2, 1, 1, 3}) {
            on ^= 1 << rule;
            run.due("rules(" + rule + ")", on >> rule & 1).due("count(3)", on);
        }
        run.due("line(1, 0, 3)", 0).then("rules(0)").due("line(1, 0, 3)", NONE).due("line(1, 0, 4)", 1)
                .then("rules(0)").due("line(1, 0, 3)", 0);
    }

    private static void rulesBad() {
        run("9: BAD").then("rules(3)").leaves("rules(4)", BAD).leaves("rules(-1)", BAD).leaves("rules(32)", BAD)
                .leaves("rules(35)", BAD).leaves("rules(2147483647)", BAD).leaves("rules(-2147483648)", BAD)
                .due("rules(3)", 1).due("rules(0)", 0);
    }

    private static void undoneHowManyMore() {
        run("10: how many more may be").then("blocks(1)").due("count(8)", 1).due("undo()", 0)
                .then("blocks(1)", "rules(0)")
                .due("count(8)", 2).due("undo()", 1).due("count(8)", 1).due("undo()", 0).due("count(8)", 0);
    }

    private static void undoneNone() {
        run("10: STATE: none").leaves("undo()", STATE).leaves("undo()", STATE).then("blocks(1)").due("undo()", 0)
                .leaves("undo()", STATE).due("count(1)", 2);
    }

    private static void undoneEachKind() {
        run("UNDONE: blocks()").then("blocks(0)").due("undo()", 0).due("count(1)", 2).then("blocks(4)", "blocks(0)")
                .due("undo()", 1).due("count(1)", 4);
        run("UNDONE: passes()").then("passes(1)").due("line(1, 1, 3)", 3).due("undo()", 0).due("count(2)", 0)
                .due("line(1, 1, 3)", NONE).then("passes(1)", "passes(1)").due("undo()", 1).due("count(2)", 2)
                .due("line(1, 1, 3)", 3);
        run("UNDONE: rules()").then("rules(0)").due("count(5)", 11).due("undo()", 0).due("count(3)", 15)
                .due("count(5)", 6).then("rules(3)", "rules(3)").due("undo()", 1).due("count(3)", 7);
        run("UNDONE: nothing else is").type("R").then("keep(0)", "sees(0, 0, 0, 1)", "forget()", "clear()")
                .leaves("undo()", STATE).due("count(8)", 0);
    }

    private static void undoneNotRefused() {
        run("UNDONE: the latest that was not refused")
                .then("rules(1)", "blocks(2)", "blocks(5)", "passes(3)", "passes(-1)", "rules(4)", "back(0)", "keep(2)")
                .due("count(8)", 1).due("undo()", 0).due("count(3)", 15)
                .leaves("undo()", STATE);
    }

    private static void undoneLatestFirst() {
        run("UNDONE: the latest").then("blocks(1)", "passes(1)", "rules(0)", "blocks(3)", "passes(1)")
                .due("undo()", 4).row("count(%)", 3, 3, 2, 14).due("undo()", 3).row("count(%)", 3, 1, 2, 14)
                .due("undo()", 2).row("count(%)", 3, 1, 2, 15).due("undo()", 1).row("count(%)", 3, 1, 0, 15)
                .due("undo()", 0).row("count(%)", 3, 2, 0, 15);
    }

    /** Changes that are all to be told from one another: the REVISIONS PASSED are a number that grows. */
    private static Run changed(String sentence, int changes) {
        Run run = new Run(CHECK, sentence).told("R:;".repeat(8));
        for (int i = 1; i <= changes; i++) {
            run.then(changeAt(i));
        }
        return run;
    }

    private static String changeAt(int i) {
        return i <= 8 ? "passes(" + (i - 1) + ")" : "rules(" + (i - 9) + ")";
    }

    private static void undoAll(Run run, int changes, int known) {
        for (int left = known - 1; left >= 0; left--) {
            int stay = changes - known + left;
            run.due("undo()", left).due("count(8)", left).due("count(2)", (1 << Math.min(8, stay)) - 1)
                    .due("count(3)", 15 & -1 << Math.max(0, stay - 8));
        }
        run.leaves("undo()", STATE);
    }

    private static void tenAreKnown() {
        for (int changes = 8; changes <= 10; changes++) {
            undoAll(changed("UNDONE: 10 are known, of " + changes, changes)
                    .due("count(8)", changes), changes, changes);
        }
    }

    private static void olderOnesAreLost() {
        for (int changes = 11; changes <= 12; changes++) {
            undoAll(changed("UNDONE: older ones are lost, of " + changes, changes).due("count(8)", 10), changes, 10);
        }
        Run run = run("UNDONE: older ones are lost, of many");
        for (int i = 1; i <= 60; i++) {
            run.due("passes(1)", i % 2).due("count(8)", Math.min(i, 10));
        }
        for (int left = 9; left >= 0; left--) {
            run.due("undo()", left).due("count(2)", left % 2 == 0 ? 0 : 2);
        }
        run.leaves("undo()", STATE);
    }

    private static void undoneThenMore() {
        Run run = changed("UNDONE: ten, one UNDONE, two more", 10).due("undo()", 9).then("rules(2)")
                .due("count(8)", 10)
                .then("blocks(4)").due("count(8)", 10).due("undo()", 9).due("count(1)", 2).due("count(3)", 15 - 1 - 4)
                .due("undo()", 8).due("count(3)", 15 - 1).due("undo()", 7).due("count(3)", 15).due("undo()", 6)
                .due("count(2)", 127);
        for (int left = 5; left >= 0; left--) {
            run.due("undo()", left);
        }
        // The first change of all is the one that was lost.
        run.leaves("undo()", STATE).due("count(2)", 1);
    }

    private static void undoneIsNoChange() {
        run("UNDONE: undo() itself is none").then("blocks(1)", "blocks(3)").due("undo()", 1).due("undo()", 0)
                .leaves("undo()", STATE).due("count(1)", 2);
    }

    private static void keepTellsBlock() {
        Run run = run("21: An IMAGE is kept: BLOCK").due("keep(0)", 2).due("keep(1)", 2);
        for (int n : new int[] {0, 1, 3, 4}) {
            run.then("blocks(" + n + ")").due("keep(0)", n).due("keep(1)", n);
        }
        run.leaves("keep(2)", BAD).leaves("keep(-1)", BAD).leaves("keep(2147483647)", BAD)
                .leaves("keep(-2147483648)", BAD).leaves("keep(32)", BAD);
        new Run(CHECK, "21: BAD, with none kept").leaves("keep(2)", BAD).leaves("keep(-1)", BAD)
                .leaves("back(0)", STATE);
    }

    private static void keepChangesNothingElse() {
        run("21: nothing else is changed").then("blocks(1)", "passes(1)", "rules(3)", "sees(1, 1, 0, 1)").type("R:")
                .due("keep(1)", 1).row("count(%)", 3, 1, 2, 7, 13, 6, 1, 2, 3).leaves("back(0)", STATE)
                .due("undo()", 2);
    }

    private static void keepOverAnEarlierOne() {
        run("21: the later IMAGE counts").then("blocks(1)", "keep(0)", "keep(1)", "blocks(3)").due("keep(0)", 3)
                .then("blocks(4)").due("back(0)", 3).due("back(1)", 1).leaves("back(2)", BAD);
    }

    private static void backTellsBlock() {
        for (int n = 0; n <= 4; n++) {
            run("22: BLOCK").then("blocks(" + n + ")", "keep(0)", "blocks(" + (n + 1) % 5 + ")").due("back(0)", n)
                    .due("count(1)", n).leaves("blocks(" + n + ")", STATE);
        }
    }

    private static void backOfNoneKept() {
        run("22: STATE: none was kept").then("blocks(1)", "passes(1)").leaves("back(0)", STATE)
                .leaves("back(1)", STATE)
                .then("keep(0)").leaves("back(1)", STATE).due("back(0)", 1).leaves("back(1)", STATE);
        run("22: STATE: none was kept in the first").then("keep(1)").leaves("back(0)", STATE).due("back(1)", 2);
        run("22: STATE behind history(), IMAGES are gone").then("keep(0)", "keep(1)").told(TEXT)
                .leaves("back(0)", STATE).leaves("back(1)", STATE);
    }

    private static void backBringsAllOfThat() {
        run("22: All of that becomes as an IMAGE has it")
                .then("blocks(4)", "passes(1)", "passes(2)", "rules(0)", "rules(2)", "keep(0)")
                .then("blocks(0)", "passes(0)", "passes(1)", "rules(0)", "rules(1)", "keep(1)")
                .due("back(0)", 4).row("count(%)", 3, 4, 6, 10).due("line(1, 0, 3)", NONE).due("line(1, 1, 3)", 3)
                .due("back(1)", 0).row("count(%)", 3, 0, 5, 9).due("line(1, 0, 3)", 0).due("line(1, 1, 3)", NONE)
                .due("back(1)", 0).due("back(0)", 4).row("count(%)", 3, 4, 6, 10);
    }

    private static void backBringsNothingElse() {
        run("IMAGES keep BLOCK, PASSED ones, RULES; nothing else").type("R:")
                .then("sees(1, 1, 0, 1)", "keep(0)", "forget()", "clear()")
                .due("back(0)", 2).due("count(6)", 0).due("count(7)", 0)
                .type("R").then("sees(0, 0, 0, 1)", "sees(0, 0, 0, 1)")
                .due("back(0)", 2).due("count(6)", 2).due("count(7)", 1);
    }

    private static void nothingUndoneBehindBack() {
        run("nothing can be UNDONE behind back()").then("blocks(1)", "keep(0)", "blocks(3)").due("count(8)", 2)
                .due("back(0)", 1).due("count(8)", 0).leaves("undo()", STATE).then("blocks(4)").due("count(8)", 1)
                .due("undo()", 0).due("count(1)", 1).leaves("undo()", STATE);
        run("nothing can be UNDONE, though back() brought nothing new").then("blocks(1)", "keep(1)").due("back(1)", 1)
                .leaves("undo()", STATE);
        run("a refused back() leaves what can be UNDONE").then("blocks(1)").leaves("back(0)", STATE)
                .leaves("back(2)", BAD).due("undo()", 0);
    }

    private static void imagesOfAllAndOfNothing() {
        Run run = new Run(CHECK, "IMAGES of all and of nothing").told("R:;".repeat(8));
        run.then("blocks(0)", "rules(0)", "rules(1)", "rules(2)", "rules(3)").due("keep(0)", 0);
        run.then("blocks(4)", "rules(0)", "rules(1)", "rules(2)", "rules(3)");
        for (int r = 0; r < 8; r++) {
            run.due("passes(" + r + ")", 1);
        }
        run.due("keep(1)", 4).due("back(0)", 0).row("count(%)", 8, 0, 0, 0, 0, 0, 0, 0, 0).due("back(1)", 4)
                .row("count(%)", 8, 4, 255, 15, 0, 0, 0, 0, 0).then("blocks(0)").due("undo()", 0)
                .row("count(%)", 8, 4, 255, 15);
        run.due("back(0)", 0).then("blocks(4)").due("undo()", 0).row("count(%)", 8, 0, 0, 0);
    }

    private static void imagesStay() {
        run("IMAGES stay, whatever is done")
                .then("keep(0)", "blocks(4)", "keep(1)", "passes(0)", "undo()", "undo()", "rules(1)")
                .due("back(1)", 4).due("back(0)", 2).then("rules(3)", "undo()").type("Y").leaves("history()", -10)
                .due("back(1)", 4).due("back(0)", 2).row("count(%)", 3, 2, 0, 15);
    }

    private static void badAheadOfState() {
        run("Refused, the first of these: BAD, STATE").leaves("back(2)", BAD).leaves("back(-1)", BAD)
                .leaves("back(0)", STATE)
                .leaves("back(2147483647)", BAD).leaves("back(-2147483648)", BAD).then("keep(0)")
                .leaves("back(2)", BAD).leaves("back(-1)", BAD).due("back(0)", 2);
    }
}
