/** Promises 7 to 10: blocks, passes, rules, undo. */
public final class DoneTest {
    private static final Check CHECK = new Check("DoneTest");

    public static void main(String[] args) {
        blocks();
        passes();
        rules();
        undo();
        tenAreKnown();
        refusedOnesAreNotKnown();
        CHECK.end();
    }

    private static void blocks() {
        LineOrigins x = Check.told("R:abcdefgh;R0:efghabcd;");
        CHECK.due("blocks(2) at first", x.blocks(2), LineOrigins.STATE);
        CHECK.due("blocks(-1)", x.blocks(-1), LineOrigins.BAD);
        CHECK.due("blocks(5)", x.blocks(5), LineOrigins.BAD);
        CHECK.due("blocks(least)", x.blocks(Integer.MIN_VALUE), LineOrigins.BAD);
        CHECK.due("blocks(most)", x.blocks(Integer.MAX_VALUE), LineOrigins.BAD);
        CHECK.due("nothing was done", x.count(8), 0);
        CHECK.due("blocks(4)", x.blocks(4), 2);
        CHECK.due("count(1)", x.count(1), 4);
        CHECK.due("a row of 4 is long enough", x.line(1, 4, 3), 2);
        CHECK.due("blocks(4) again", x.blocks(4), LineOrigins.STATE);
        CHECK.due("blocks(0)", x.blocks(0), 4);
        CHECK.due("BLOCK 0: none", x.line(1, 4, 3), LineOrigins.NONE);
        CHECK.due("blocks(0) again", x.blocks(0), LineOrigins.STATE);
        CHECK.due("blocks(1)", x.blocks(1), 0);
        CHECK.due("blocks(3)", x.blocks(3), 1);
        CHECK.due("count(8)", x.count(8), 4);
        CHECK.due("without REVISIONS", new LineOrigins().blocks(3), 2);
    }

    private static void passes() {
        LineOrigins x = Check.told("R:abc;R0:axc;");
        CHECK.due("line(1, 1, 3) at first", x.line(1, 1, 3), LineOrigins.NONE);
        CHECK.due("passes(1)", x.passes(1), 1);
        CHECK.due("count(2)", x.count(2), 2);
        CHECK.due("line(1, 1, 3)", x.line(1, 1, 3), 3);
        CHECK.due("passes(0)", x.passes(0), 1);
        CHECK.due("count(2) of both", x.count(2), 3);
        CHECK.due("passes(1), not any more", x.passes(1), 0);
        CHECK.due("count(2) of the first", x.count(2), 1);
        CHECK.due("line(1, 1, 3), not any more", x.line(1, 1, 3), LineOrigins.NONE);
        for (int r : new int[] {2, -1, 8, 32, Integer.MAX_VALUE, Integer.MIN_VALUE}) {
            CHECK.due("passes(" + r + ")", x.passes(r), LineOrigins.BAD);
        }
        CHECK.due("BAD changes nothing", x.count(2), 1);
        CHECK.due("nor what may be UNDONE", x.count(8), 3);
    }

    private static void rules() {
        LineOrigins x = Check.told("R:ab;R0:ab;R0 1:abc;");
        CHECK.due("line(2, 0, 3)", x.line(2, 0, 3), 0);
        CHECK.due("rules(0), off", x.rules(0), 0);
        CHECK.due("count(3)", x.count(3), 14);
        CHECK.due("line(2, 0, 3) by the next one", x.line(2, 0, 3), 1);
        CHECK.due("rules(1), off", x.rules(1), 0);
        CHECK.due("line(2, 0, 3) by none", x.line(2, 0, 3), LineOrigins.NONE);
        CHECK.due("rules(0), on", x.rules(0), 1);
        CHECK.due("rules(2), off", x.rules(2), 0);
        CHECK.due("rules(3), off", x.rules(3), 0);
        CHECK.due("count(3)", x.count(3), 1);
        for (int rule : new int[] {4, -1, 32, Integer.MAX_VALUE, Integer.MIN_VALUE}) {
            CHECK.due("rules(" + rule + ")", x.rules(rule), LineOrigins.BAD);
        }
        CHECK.due("BAD changes nothing", x.count(3), 1);
        CHECK.due("nor what may be UNDONE", x.count(8), 5);
    }

    private static void undo() {
        LineOrigins x = Check.told("R:abc;R0:axc;");
        String first = Check.look(x);
        CHECK.due("undo() of nothing", x.undo(), LineOrigins.STATE);
        x.blocks(1);
        x.passes(1);
        x.rules(0);
        x.passes(1);
        CHECK.due("undo() of passes(1)", x.undo(), 3);
        CHECK.due("PASSED again", x.count(2), 2);
        CHECK.due("the trace is as it was", x.line(1, 1, 3), 3);
        CHECK.due("undo() of rules(0)", x.undo(), 2);
        CHECK.due("on again", x.count(3), 15);
        CHECK.due("undo() of passes(1)", x.undo(), 1);
        CHECK.due("not PASSED", x.count(2), 0);
        CHECK.due("undo() of blocks(1)", x.undo(), 0);
        CHECK.due("all is as at first", Check.look(x).equals(first));
        CHECK.due("undo() of no more", x.undo(), LineOrigins.STATE);
        x.rules(3);
        CHECK.due("count(8) grows again", x.count(8), 1);
        CHECK.due("undo() again", x.undo(), 0);
    }

    private static void tenAreKnown() {
        LineOrigins x = Check.told("R:abc;R0:axc;");
        x.blocks(3);
        CHECK.due("count(8) of one", x.count(8), 1);
        for (int i = 0; i < 9; i++) {
            x.rules(i % 4);
        }
        CHECK.due("count(8) of ten", x.count(8), 10);
        x.passes(0);
        CHECK.due("count(8) of eleven", x.count(8), 10);
        for (int left = 9; left >= 0; left--) {
            CHECK.due("undo()", x.undo(), left);
        }
        CHECK.due("undo() of an eleventh", x.undo(), LineOrigins.STATE);
        CHECK.due("the eldest one is lost", x.count(1), 3);
        CHECK.due("RULES are all on", x.count(3), 15);
        CHECK.due("none is PASSED", x.count(2), 0);
    }

    private static void refusedOnesAreNotKnown() {
        LineOrigins x = Check.told("R:abc;R0:axc;");
        x.rules(1);
        x.blocks(2);
        x.blocks(5);
        x.passes(7);
        x.rules(4);
        CHECK.due("count(8)", x.count(8), 1);
        CHECK.due("undo()", x.undo(), 0);
        CHECK.due("count(3)", x.count(3), 15);
    }
}
