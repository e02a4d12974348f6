/**
 * Promises 1 to 23 in their order, a method for each: what it says of ordinary numbers, at its edges, and what it
 * refuses. All but those on THE TEXT ask about one history, whose answers were worked out by hand:
 *
 * 0: abcdef. 1 of 0: abxyef, x and y new. 2 of 0: defabc, def in order, abc moved. 3 of 1 and 2: abcxef, c from 2
 * alone. 4 of 3: abczxefw, z and w new. 5: no LINES. 6 of 5: ab, both new. 7 of 4 and 0: efwabcz, efw moved.
 */
public final class PromisesTest {
    private static final int BAD = -1, STATE = -2, FULL = -3, NONE = -9;
    private static final int MIN = Integer.MIN_VALUE;
    private static final int MAX = Integer.MAX_VALUE;
    private static final String HISTORY =
            "R:abcdef;R0:abxyef;R0:defabc;R1 2:abcxef;R3:abczxefw;R:;R5:ab;R4 0:efwabcz;";
    private static final Check CHECK = new Check("PromisesTest");

    public static void main(String[] args) {
        promise1();
        promise2();
        promise3();
        promise4();
        promise5();
        promise6();
        promise7();
        promise8();
        promise9();
        promise10();
        promise11();
        promise12();
        promise13();
        promise14();
        promise15();
        promise16();
        promise17();
        promise18();
        promise19();
        promise20();
        promise21();
        promise22();
        promise23();
        CHECK.end();
    }

    private static Run untold(int promise) {
        return new Run(CHECK, "promise " + promise);
    }

    private static Run told(int promise) {
        return untold(promise).told(HISTORY);
    }

    /** A new object: No REVISIONS. */
    private static void promise1() {
        untold(1).row("count(%)", 0, 2, 0, 15, 0, 0, 0, 0, 0, BAD).leaves("revision(0, 0)", BAD)
                .leaves("line(0, 0, 0)", BAD).leaves("passes(0)", BAD).leaves("gives(0, 0, 0)", BAD)
                .leaves("begun(0, 0)", BAD).leaves("age(0, 0)", BAD).leaves("like(0, 0, 0)", BAD)
                .leaves("carried(0, 0)", BAD).leaves("kept(0, 0)", BAD).leaves("common(0, 0)", BAD)
                .leaves("sees(0, 0, 0, 0)", BAD).leaves("unseen()", 0).leaves("forget()", 0).leaves("undo()", STATE)
                .leaves("back(0)", STATE).leaves("back(1)", STATE).leaves("clear()", 0);
    }

    /** A letter (0 .. 255) comes to THE TEXT: how many it has. BAD; FULL: 120. */
    private static void promise2() {
        Run run = untold(2).due("type(82)", 1).due("type(0)", 2).due("type(255)", 3).leaves("type(-1)", BAD)
                .leaves("type(256)", BAD).leaves("type(" + MIN + ")", BAD).leaves("type(" + MAX + ")", BAD);
        for (int letters = 4; letters <= 120; letters++) {
            run.due("type(32)", letters);
        }
        run.leaves("type(82)", FULL).leaves("type(256)", BAD).due("count(7)", 120);
    }

    /** THE TEXT is empty: how many letters it had. */
    private static void promise3() {
        untold(3).due("clear()", 0).type("R:a").due("clear()", 3).due("count(7)", 0).due("clear()", 0)
                .type("R:b;").due("history()", 1).due("line(0, 0, 0)", 'b').type("x").due("clear()", 1)
                .due("line(0, 0, 0)", 'b').due("type(82)", 1);
    }

    /** THE TEXT tells all anew, and is empty then: how many ITEMS. -10 less FAULT: nothing changes. */
    private static void promise4() {
        untold(4).type(HISTORY).due("count(7)", 75).due("history()", 8).due("count(7)", 0).isAsTold(HISTORY)
                .then("passes(1)", "blocks(3)", "rules(2)", "keep(0)", "sees(0, 0, 0, 1)")
                .type("R:a;R1:b;").leaves("history()", -15).due("clear()", 9)
                .type("R:a;R0:b;").due("history()", 2).isAsTold("R:a;R0:b;").due("history()", 0).isAsTold("");
        fault("", "x", 0);
        fault("", "R", 1);
        fault("", "R:a", 3);
        fault("  ", "R : a ", 8);
        fault("R:abcdefgh", "i;", 10);
        fault("R:;R:;R:;R:;R:;R:;R:;R:;", "R:;", 24);
        fault("R:;R:;R:;R0 1", " 2:;", 14);
        fault("R:;R0", " 0:;", 6);
        fault("R:;R", "00:;", 4);
        fault("R:;R", "100:;", 4);
        fault("R:;R", "A:;", 4);
    }

    private static void fault(String ahead, String rest, int place) {
        untold(4).type(ahead + rest).leaves("history()", -10 - place).due("count(7)", (ahead + rest).length());
    }

    /** Of a REVISION: 0 how many LINES, 1 its first PARENT, 2 the second one, 3 whether it is PASSED. */
    private static void promise5() {
        told(5).row("revision(%, 0)", 6, 6, 6, 6, 8, 0, 2, 7, BAD).row("revision(%, 1)", NONE, 0, 0, 1, 3, NONE, 5, 4)
                .row("revision(%, 2)", NONE, NONE, NONE, 2, NONE, NONE, NONE, 0)
                .then("passes(0)", "passes(5)", "passes(7)").row("revision(%, 3)", 1, 0, 0, 0, 0, 1, 0, 1)
                .leaves("revision(0, 4)", BAD).leaves("revision(0, -1)", BAD).leaves("revision(-1, 0)", BAD)
                .leaves("revision(8, 3)", BAD).leaves("revision(" + MIN + ", " + MAX + ")", BAD);
    }

    /** Of a LINE: 0 its letter, 1 and 2 its PAIRS, 3 which RULE gives, 4 and 5 its ORIGIN, 6 STEPS. */
    private static void promise6() {
        told(6).row("line(7, %, 0)", 'e', 'f', 'w', 'a', 'b', 'c', 'z', BAD)
                .row("line(7, %, 1)", NONE, NONE, NONE, 0, 1, 2, 3)
                .row("line(7, %, 2)", NONE, NONE, NONE, 0, 1, 2, NONE)
                .row("line(7, %, 3)", 2, 2, 2, 0, 0, 0, 0).row("line(7, %, 4)", 0, 0, 4, 0, 0, 0, 4)
                .row("line(7, %, 5)", 4, 5, 7, 0, 1, 2, 3).row("line(7, %, 6)", 4, 4, 1, 4, 4, 4, 1);
        told(6).row("line(3, %, 1)", 0, 1, NONE, 2, 4, 5).row("line(3, %, 2)", 3, 4, 5, NONE, NONE, NONE)
                .row("line(3, %, 3)", 0, 0, 1, 0, 0, 0).row("line(3, %, 4)", 0, 0, 0, 1, 0, 0)
                .row("line(3, %, 5)", 0, 1, 2, 2, 4, 5).row("line(3, %, 6)", 2, 2, 2, 1, 2, 2)
                .row("line(6, 0, %)", 'a', NONE, NONE, NONE, 6, 0, 0, BAD)
                .row("line(4, 7, %)", 'w', NONE, NONE, NONE, 4, 7, 0)
                .due("passes(1)", 1).row("line(1, 2, %)", 'x', NONE, NONE, 3, 0, 2, 1)
                .row("line(1, 3, %)", 'y', NONE, NONE, 3, 0, 3, 1).row("line(4, 4, %)", 'x', 3, NONE, 0, 0, 2, 3);
        told(6).leaves("line(5, 0, 0)", BAD).leaves("line(0, 6, 0)", BAD).leaves("line(0, -1, 0)", BAD)
                .leaves("line(8, 0, 0)", BAD).leaves("line(-1, 0, 0)", BAD).leaves("line(0, 0, -1)", BAD)
                .leaves("line(" + MAX + ", " + MAX + ", " + MAX + ")", BAD);
    }

    /** SET: BLOCK: what it was. BAD; STATE: it is that. */
    private static void promise7() {
        told(7).due("blocks(3)", 2).due("count(1)", 3).due("count(5)", 12).due("blocks(4)", 3).due("count(5)", 18)
                .row("line(7, %, 4)", 7, 7, 7, 0, 0, 2, 4).due("line(3, 2, 4)", 2).due("line(3, 2, 5)", 5)
                .due("blocks(0)", 4).due("count(5)", 18).due("blocks(1)", 0).due("count(5)", 12)
                .leaves("blocks(1)", STATE).leaves("blocks(5)", BAD).leaves("blocks(-1)", BAD)
                .leaves("blocks(" + MIN + ")", BAD).leaves("blocks(" + MAX + ")", BAD).due("count(8)", 4);
    }

    /** PASSED (1), or not any more (0). BAD. */
    private static void promise8() {
        told(8).due("passes(1)", 1).due("count(2)", 2).due("count(5)", 10).due("passes(7)", 1).due("count(2)", 130)
                .due("passes(1)", 0).due("count(2)", 128).due("count(5)", 12).leaves("passes(8)", BAD)
                .leaves("passes(-1)", BAD).leaves("passes(" + MIN + ")", BAD).leaves("passes(" + MAX + ")", BAD)
                .due("count(8)", 3);
    }

    /** RULED: on (1), off (0). BAD. */
    private static void promise9() {
        told(9).due("rules(0)", 0).due("count(3)", 14).due("count(5)", 29)
                .row("line(3, %, 3)", 1, 1, 1, NONE, NONE, NONE)
                .due("rules(0)", 1).due("count(5)", 12).due("rules(1)", 0).due("line(3, 2, 4)", 3).due("count(3)", 13)
                .due("rules(2)", 0).due("line(7, 0, 4)", 7).due("rules(3)", 0).due("count(3)", 1)
                .leaves("rules(4)", BAD).leaves("rules(-1)", BAD).leaves("rules(" + MIN + ")", BAD)
                .leaves("rules(" + MAX + ")", BAD).due("rules(1)", 1).due("count(3)", 3).due("count(8)", 6);
    }

    /** UNDONE: how many more may be. STATE: none. */
    private static void promise10() {
        told(10).leaves("undo()", STATE).then("blocks(4)", "passes(1)", "rules(3)").due("undo()", 2).due("count(3)", 15)
                .due("undo()", 1).due("count(2)", 0).due("undo()", 0).due("count(1)", 2).isAsTold(HISTORY)
                .leaves("undo()", STATE);
        Run run = told(10).then("rules(0)");
        for (int changes = 0; changes < 10; changes++) {
            run.then("passes(" + changes % 8 + ")");
        }
        run.due("count(8)", 10);
        for (int left = 9; left >= 0; left--) {
            run.due("undo()", left);
        }
        run.leaves("undo()", STATE).due("count(2)", 0).due("count(3)", 14);
    }

    /** What a RULE (on or not) gives for a LINE: the PARENT's number by 8, and the LINE; NONE. BAD. */
    private static void promise11() {
        told(11).row("gives(0, 3, %)", 8, 9, NONE, 10, 12, 13, BAD).row("gives(1, 3, %)", 19, 20, 21, NONE, NONE, NONE)
                .row("gives(2, 7, %)", 37, 38, 39, NONE, NONE, NONE, NONE)
                .row("gives(2, 2, %)", NONE, NONE, NONE, 0, 1, 2)
                .row("gives(3, 1, %)", NONE, NONE, NONE, NONE, NONE, NONE).due("passes(1)", 1)
                .row("gives(3, 1, %)", NONE, NONE, 2, 3, NONE, NONE).due("rules(3)", 0).due("gives(3, 1, 2)", 2)
                .row("gives(%, 0, 0)", NONE, NONE, NONE, NONE, BAD).row("gives(%, 6, 1)", NONE, NONE, NONE, NONE, BAD)
                .leaves("gives(-1, 0, 0)", BAD).leaves("gives(0, 8, 0)", BAD).leaves("gives(0, -1, 0)", BAD)
                .leaves("gives(0, 0, 6)", BAD).leaves("gives(0, 0, -1)", BAD).leaves("gives(0, 5, 0)", BAD);
    }

    /** BEGUN (bits). BAD. */
    private static void promise12() {
        told(12).row("begun(7, %)", 59, 0, 0, 0, 68, 0, 0, 0, BAD)
                .row("begun(%, 0)", 63, 51, 63, 55, 103, 0, 0, 59, BAD)
                .row("begun(%, 1)", 0, 12, 0, 8, 16, 0, 0, 0).due("begun(6, 6)", 3).due("begun(6, 5)", 0)
                .due("passes(1)", 1).row("begun(%, 0)", 63, 63, 63, 63, 119, 0, 0, 59)
                .leaves("begun(-1, 0)", BAD).leaves("begun(0, -1)", BAD).leaves("begun(0, 8)", BAD)
                .leaves("begun(" + MAX + ", " + MIN + ")", BAD);
    }

    /** The k-th by AGE (0 on); NONE. BAD. */
    private static void promise13() {
        told(13).row("age(7, %)", 3, 4, 5, 0, 1, 6, 2, NONE, NONE).row("age(4, %)", 0, 1, 2, 5, 6, 4, 3, 7, NONE)
                .row("age(2, %)", 3, 4, 5, 0, 1, 2, NONE).due("age(5, 0)", NONE).due("age(6, 1)", 1)
                .due("age(6, " + MAX + ")", NONE).leaves("age(6, -1)", BAD).leaves("age(8, 0)", BAD)
                .leaves("age(-1, 0)", BAD).leaves("age(0, " + MIN + ")", BAD)
                .due("passes(1)", 1).row("age(4, %)", 0, 1, 2, 4, 5, 6, 3, 7, NONE);
    }

    /** LIKE (bits). BAD. */
    private static void promise14() {
        told(14).row("like(7, 0, %)", 16, 16, 2, 16, 32, 0, 0, 1, BAD)
                .row("like(%, 0, 0)", 1, 1, 8, 1, 1, BAD, 0, 16, BAD)
                .due("like(4, 7, 7)", 4).due("like(3, 3, 3)", 8).due("passes(1)", 1).due("like(3, 3, 3)", 12)
                .due("like(1, 3, 2)", 1).leaves("like(0, 6, 0)", BAD).leaves("like(0, -1, 0)", BAD)
                .leaves("like(8, 0, 0)", BAD).leaves("like(-1, 0, 0)", BAD).leaves("like(0, 0, -1)", BAD);
    }

    /** CARRIED (bits). BAD. */
    private static void promise15() {
        told(15).row("carried(0, %)", 159, 159, 157, 5, 159, 159, BAD).row("carried(1, %)", 0, 0, 26, 2, 0, 0)
                .row("carried(4, %)", 0, 0, 0, 144, 0, 0, 0, 144, BAD).row("carried(7, %)", 0, 0, 0, 0, 0, 0, 0, BAD)
                .row("carried(6, %)", 64, 64, BAD).due("passes(1)", 1).row("carried(1, %)", 0, 0, 0, 0, 0, 0)
                .row("carried(0, %)", 159, 159, 159, 7, 159, 159).leaves("carried(5, 0)", BAD)
                .leaves("carried(8, 0)", BAD).leaves("carried(-1, 0)", BAD).leaves("carried(0, -1)", BAD);
    }

    /** KEPT. BAD. */
    private static void promise16() {
        told(16).row("kept(0, %)", 6, 4, 6, 5, 5, 0, 0, 5, BAD).row("kept(1, %)", 0, 2, 0, 1, 1, 0, 0, 0)
                .row("kept(3, %)", 0, 0, 0, 0, 0, 0, 0, 0).row("kept(%, 7)", 5, 0, 0, 0, 2, 0, 0, 0, BAD)
                .due("passes(1)", 1).row("kept(0, %)", 6, 6, 6, 5, 5, 0, 0, 5).leaves("kept(-1, 0)", BAD)
                .leaves("kept(0, -1)", BAD).leaves("kept(" + MIN + ", " + MAX + ")", BAD);
    }

    /** COMMON of a PARENT (0 the first, 1 the second) and a REVISION, all LINES; NONE: no such PARENT. BAD. */
    private static void promise17() {
        told(17).row("common(%, 0)", NONE, 4, 3, 5, 6, NONE, 0, 4, BAD)
                .row("common(%, 1)", NONE, NONE, NONE, 3, NONE, NONE, NONE, 3, BAD).leaves("common(0, 2)", BAD)
                .leaves("common(3, -1)", BAD).leaves("common(-1, 0)", BAD).leaves("common(3, " + MAX + ")", BAD);
    }

    /** SEEN: how much there is. BAD; FULL. */
    private static void promise18() {
        told(18).due("sees(4, 4, 0, 1)", 1).leaves("sees(8, 0, 0, 1)", BAD).leaves("sees(-1, 0, 0, 1)", BAD)
                .leaves("sees(0, 6, 0, 1)", BAD).leaves("sees(0, -1, 0, 1)", BAD).leaves("sees(0, 0, 8, 1)", BAD)
                .leaves("sees(0, 0, -1, 1)", BAD).leaves("sees(0, 0, 0, 2)", BAD).leaves("sees(0, 0, 0, -1)", BAD)
                .due("sees(4, 4, 0, 1)", 2).due("sees(0, 0, 7, 0)", 3).due("sees(6, 1, 6, 1)", 4)
                .due("sees(4, 7, 4, 1)", 5).due("sees(7, 6, 4, 1)", 6).leaves("sees(0, 0, 0, 1)", FULL)
                .leaves("sees(0, 0, 0, 2)", BAD).due("count(6)", 6).due("unseen()", 2).due("count(8)", 0);
    }

    /** Nothing is SEEN: how much was. */
    private static void promise19() {
        told(19).due("forget()", 0).then("sees(4, 4, 0, 1)", "sees(1, 3, 1, 1)").due("unseen()", 0).due("forget()", 2)
                .isAsTold(HISTORY).due("unseen()", 255).due("sees(4, 4, 0, 1)", 1).due("unseen()", 2);
    }

    /** UNSEEN (bits): REVISIONS that, PASSED the other way round than now, make all so that was SEEN. */
    private static void promise20() {
        told(20).due("unseen()", 255).due("sees(4, 4, 0, 1)", 1).leaves("unseen()", 2).due("sees(7, 2, 4, 1)", 2)
                .due("unseen()", 2).due("sees(1, 3, 1, 1)", 3).due("unseen()", 0);
        told(20).due("sees(4, 4, 1, 1)", 1).due("unseen()", 253).due("passes(1)", 1).due("unseen()", 2)
                .due("sees(1, 3, 0, 0)", 2).due("unseen()", 2).due("rules(3)", 0).due("unseen()", 255)
                .due("sees(1, 2, 1, 0)", 3).due("unseen()", 0);
    }

    /** An IMAGE is kept: BLOCK. BAD. */
    private static void promise21() {
        told(21).then("blocks(4)", "passes(3)").due("keep(0)", 4).due("count(8)", 2).then("blocks(0)", "rules(1)")
                .due("keep(1)", 0).leaves("keep(2)", BAD).leaves("keep(-1)", BAD).leaves("keep(" + MAX + ")", BAD)
                .due("back(0)", 4).row("count(%)", 8, 4, 8, 15).due("back(1)", 0).row("count(%)", 8, 0, 8, 13)
                .due("keep(0)", 0).due("blocks(1)", 0).due("back(0)", 0);
    }

    /** All of that becomes as an IMAGE has it: BLOCK. BAD; STATE: none was kept. */
    private static void promise22() {
        told(22).leaves("back(0)", STATE).leaves("back(1)", STATE).leaves("back(2)", BAD).leaves("back(-1)", BAD)
                .leaves("back(" + MIN + ")", BAD).due("keep(1)", 2)
                .then("blocks(4)", "passes(1)", "rules(0)", "sees(4, 4, 0, 1)").type("R:")
                .due("back(1)", 2).row("count(%)", 8, 2, 0, 15, 41, 12, 1, 2, 0).leaves("undo()", STATE)
                .leaves("back(0)", STATE).due("passes(1)", 1).due("count(5)", 10).due("back(1)", 2).due("count(5)", 12)
                .due("clear()", 2).type("R:a;").due("history()", 1).leaves("back(1)", STATE);
    }

    /** 0 REVISIONS, 1 BLOCK, 2 PASSED, 3 RULES, 4 LINES, 5 their own ORIGIN, 6 SEEN, 7 letters, 8 UNDONE. BAD. */
    private static void promise23() {
        told(23).row("count(%)", 8, 2, 0, 15, 41, 12, 0, 0, 0, BAD)
                .then("blocks(1)", "passes(1)", "passes(6)", "rules(1)", "sees(0, 0, 0, 1)", "sees(0, 0, 0, 1)")
                .type("R:abc").row("count(%)", 8, 1, 66, 13, 41, 11, 2, 5, 4).leaves("count(9)", BAD)
                .leaves("count(-1)", BAD).leaves("count(" + MIN + ")", BAD).leaves("count(" + MAX + ")", BAD);
    }
}
