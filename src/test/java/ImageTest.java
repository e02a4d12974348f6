/** Promises 21 to 23: keep, back, count. */
public final class ImageTest {
    private static final Check CHECK = new Check("ImageTest");

    public static void main(String[] args) {
        wrongOnes();
        keepAndBack();
        nothingElse();
        notUndone();
        count();
        CHECK.end();
    }

    private static void wrongOnes() {
        LineOrigins x = Check.told("R:abc;R0:axc;");
        x.rules(0);
        for (int image : new int[] {2, -1, Integer.MAX_VALUE, Integer.MIN_VALUE}) {
            CHECK.due("keep(" + image + ")", x.keep(image), LineOrigins.BAD);
            CHECK.due("back(" + image + ")", x.back(image), LineOrigins.BAD);
        }
        CHECK.due("back(0) of none", x.back(0), LineOrigins.STATE);
        CHECK.due("back(1) of none", x.back(1), LineOrigins.STATE);
        CHECK.due("STATE leaves what may be UNDONE", x.count(8), 1);
        CHECK.due("keep(0)", x.keep(0), 2);
        CHECK.due("back(1) still", x.back(1), LineOrigins.STATE);
    }

    private static void keepAndBack() {
        LineOrigins x = Check.told("R:abc;R0:axc;");
        CHECK.due("keep(0) as at first", x.keep(0), 2);
        x.blocks(4);
        x.passes(0);
        x.passes(1);
        x.rules(3);
        x.rules(0);
        String changed = Check.look(x);
        CHECK.due("keep(1)", x.keep(1), 4);
        CHECK.due("back(0)", x.back(0), 2);
        CHECK.due("BLOCK", x.count(1), 2);
        CHECK.due("PASSED", x.count(2), 0);
        CHECK.due("RULES", x.count(3), 15);
        CHECK.due("traced anew", x.line(1, 0, 4), 0);
        CHECK.due("back(1)", x.back(1), 4);
        CHECK.due("BLOCK of 1", x.count(1), 4);
        CHECK.due("PASSED of 1", x.count(2), 3);
        CHECK.due("RULES of 1", x.count(3), 6);
        CHECK.due("traced anew", x.line(1, 0, 4), 1);
        for (int i = 0; i < 5; i++) {
            x.blocks(i % 2);
        }
        x.back(1);
        x.blocks(3);
        x.undo();
        CHECK.due("back to 4", x.count(1), 4);
        CHECK.due("as it was, but for what may be UNDONE",
                Check.look(x).equals(changed.replaceFirst("^(2 4 3 6 6 \\d+ 0 0) 5 ", "$1 0 ")));
        x.blocks(0);
        CHECK.due("keep(0) anew, BLOCK 0", x.keep(0), 0);
        x.blocks(1);
        CHECK.due("back(0) to the later one", x.back(0), 0);
    }

    private static void nothingElse() {
        LineOrigins x = Check.told("R:abc;R0:axc;");
        x.keep(0);
        x.sees(1, 1, 0, 1);
        Check.type(x, "R:");
        x.back(0);
        CHECK.due("SEEN stays", x.count(6), 1);
        CHECK.due("THE TEXT stays", x.count(7), 2);
        CHECK.due("unseen()", x.unseen(), 2);
        x.keep(1);
        x.passes(1);
        x.forget();
        x.back(0);
        CHECK.due("what was forgotten does not come back", x.count(6), 0);
    }

    private static void notUndone() {
        LineOrigins x = Check.told("R:abc;R0:axc;");
        x.blocks(1);
        x.keep(0);
        CHECK.due("keep() leaves what may be UNDONE", x.count(8), 1);
        x.rules(2);
        x.back(0);
        CHECK.due("nothing can be UNDONE behind back()", x.undo(), LineOrigins.STATE);
        CHECK.due("count(8)", x.count(8), 0);
        CHECK.due("BLOCK stays", x.count(1), 1);
        x.rules(2);
        CHECK.due("a later one can", x.undo(), 0);
    }

    private static void count() {
        LineOrigins x = Check.told("R:abcd;R0:xabd;R0:cdab;R1 2:xcdb;R3:dbxcy;");
        x.blocks(3);
        x.passes(0);
        x.passes(3);
        x.rules(1);
        x.sees(0, 0, 0, 1);
        x.sees(0, 0, 0, 0);
        x.type('R');
        int[] due = {5, 3, 9, 13, 21, 11, 2, 1, 4};
        for (int what = 0; what < due.length; what++) {
            CHECK.due("count(" + what + ")", x.count(what), due[what]);
        }
        for (int what : new int[] {9, -1, Integer.MAX_VALUE, Integer.MIN_VALUE}) {
            CHECK.due("count(" + what + ")", x.count(what), LineOrigins.BAD);
        }
    }
}
