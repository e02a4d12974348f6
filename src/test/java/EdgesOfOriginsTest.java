/** The edges that the document names: promises 12 to 16. A method a sentence. */
public final class EdgesOfOriginsTest {
    private static final Check CHECK = new Check("EdgesOfOriginsTest");
    private static final int BAD = LineOrigins.BAD, NONE = LineOrigins.NONE;
    private static final String MERGE = "R:ab;R0:axb;R0:aby;R1 2:axbyz;R:;";

    public static void main(String[] args) {
        begunOfAnotherOrItself();
        begunOfAllAndNone();
        begunBad();
        ageByRevision();
        ageByLine();
        ageByThemselves();
        ageFrom0On();
        ageNone();
        ageBad();
        likeOfAnother();
        likeWhereNoneIs();
        likeOfItself();
        likeBad();
        carriedByAll();
        carriedIfItIsNoOrigin();
        carriedBad();
        keptInAnother();
        keptOnlyOrigins();
        keptEachOnce();
        keptInItself();
        keptBad();
        asThingsAreNow();
        CHECK.end();
    }

    private static Run run(String sentence, String text) {
        return new Run(CHECK, sentence + ", " + text).told(text);
    }

    private static void begunOfAnotherOrItself() {
        run("12: BEGUN, whose ORIGIN is of another one (or of itself)", MERGE).row("begun(3, %)", 5, 2, 8, 16, 0)
                .row("begun(0, %)", 3, 0, 0, 0, 0).row("begun(1, %)", 5, 2, 0, 0, 0).row("begun(2, %)", 3, 0, 4, 0, 0)
                .row("begun(4, %)", 0, 0, 0, 0, 0);
    }

    private static void begunOfAllAndNone() {
        run("12: BEGUN (bits), all eight LINES", "R:abcdefgh;R0:abcdefgh;").row("begun(1, %)", 255, 0)
                .then("rules(0)").row("begun(1, %)", 0, 255);
        run("12: BEGUN (bits), the eighth and the first LINE", "R:h;R0:abcdefgh;R:a;R2:abcdefgh;")
                .row("begun(1, %)", 128, 127, 0, 0).row("begun(3, %)", 0, 0, 1, 254);
        run("12: BEGUN of the eighth REVISION", "R:a;R:;R:;R:;R:;R:;R0:ab;R6:abc;")
                .row("begun(7, %)", 1, 0, 0, 0, 0, 0, 2, 4);
    }

    private static void begunBad() {
        run("12: BAD", MERGE).leaves("begun(5, 0)", BAD).leaves("begun(-1, 0)", BAD).leaves("begun(0, 5)", BAD)
                .leaves("begun(0, -1)", BAD).leaves("begun(4, 5)", BAD).leaves("begun(5, 5)", BAD)
                .leaves("begun(8, 0)", BAD).leaves("begun(0, 8)", BAD).due("begun(4, 4)", 0);
    }

    private static void ageByRevision() {
        run("13: AGE by the REVISION of their ORIGIN", "R:d;R0:cd;R1:bcd;R2:abcd;").row("age(3, %)", 3, 2, 1, 0, NONE)
                .row("age(2, %)", 2, 1, 0, NONE).row("age(0, %)", 0, NONE);
    }

    private static void ageByLine() {
        run("13: AGE, then by the LINE of that", "R:abcd;R0:cdab;").row("line(1, %, 5)", 2, 3, 0, 1)
                .row("age(1, %)", 2, 3, 0, 1, NONE);
        // A later LINE of an earlier REVISION comes ahead of an earlier LINE of a later one.
        run("13: AGE, the REVISION ahead of the LINE", "R:abcdefgh;R0:xh;").row("age(1, %)", 1, 0, NONE);
    }

    private static void ageByThemselves() {
        run("13: AGE, then by themselves", "R:abqrst;R0:qrstabab;").row("age(1, %)", 4, 6, 5, 7, 0, 1, 2, 3, NONE);
        run("13: AGE, then by themselves, one ORIGIN", "R:aqrst;R0:qrstaaaa;").then("blocks(1)")
                .row("age(1, %)", 4, 5, 6, 7, 0, 1, 2, 3, NONE);
    }

    private static void ageFrom0On() {
        run("13: the k-th by AGE (0 on)", "R:abcdefgh;").row("age(0, %)", 0, 1, 2, 3, 4, 5, 6, 7, NONE, NONE);
    }

    private static void ageNone() {
        run("13: NONE, behind the last LINE", "R:ab;R:;R:a;")
                .row("age(0, %)", 0, 1, NONE, NONE, NONE, NONE, NONE, NONE, NONE, NONE)
                .row("age(1, %)", NONE, NONE).row("age(2, %)", 0, NONE).leaves("age(0, 32)", NONE)
                .leaves("age(0, 2147483647)", NONE).leaves("age(1, 2147483647)", NONE);
    }

    private static void ageBad() {
        run("13: BAD", "R:ab;R:;").leaves("age(0, -1)", BAD).leaves("age(1, -1)", BAD).leaves("age(2, 0)", BAD)
                .leaves("age(-1, 0)", BAD).leaves("age(8, 0)", BAD).leaves("age(2, -1)", BAD)
                .leaves("age(0, -2147483648)", BAD).leaves("age(2, 9)", BAD);
    }

    private static void likeOfAnother() {
        run("14: LIKE: LINES with the same ORIGIN as one of another REVISION", MERGE)
                .row("like(0, 0, %)", 1, 1, 1, 1, 0)
                .row("like(0, 1, %)", 2, 4, 2, 4, 0).row("like(3, 1, %)", 0, 2, 0, 2, 0)
                .row("like(3, 3, %)", 0, 0, 4, 8, 0).row("like(1, 2, %)", 2, 4, 2, 4, 0);
        // The numbers of LINES are those of each REVISION: LINE 4 is there only in the first one that is told.
        run("14: LIKE: the LINE is of the first REVISION named", "R:abcde;R0:e;").due("like(0, 4, 1)", 1)
                .due("like(1, 0, 0)", 16).leaves("like(1, 4, 0)", BAD);
        run("14: LIKE (bits), eight LINES", "R:abqrs;R0:qrsababa;R:aaaaaaaa;").then("blocks(1)")
                .due("like(0, 0, 1)", 8 + 32 + 128).due("like(0, 1, 1)", 16 + 64);
    }

    private static void likeWhereNoneIs() {
        run("14: LIKE: none", MERGE).due("like(3, 4, 0)", 0).due("like(3, 4, 1)", 0).due("like(0, 0, 4)", 0);
        run("14: LIKE: like letters are not enough", "R:a;R:a;").due("like(0, 0, 1)", 0).due("like(1, 0, 0)", 0);
    }

    private static void likeOfItself() {
        run("14: LIKE: of its own REVISION", "R:abqrs;R0:qrsabab;").due("like(1, 3, 1)", 8 + 32)
                .due("like(1, 0, 1)", 1).due("like(0, 4, 0)", 16);
    }

    private static void likeBad() {
        run("14: BAD", MERGE).leaves("like(5, 0, 0)", BAD).leaves("like(-1, 0, 0)", BAD).leaves("like(0, 2, 0)", BAD)
                .leaves("like(0, -1, 0)", BAD).leaves("like(0, 0, 5)", BAD).leaves("like(0, 0, -1)", BAD)
                .leaves("like(4, 0, 0)", BAD).leaves("like(3, 5, 0)", BAD).due("like(3, 4, 3)", 16)
                .leaves("like(0, 2, 3)", BAD).leaves("like(0, 0, 8)", BAD);
    }

    private static void carriedByAll() {
        run("15: CARRIED: REVISIONS in which a LINE has it as its ORIGIN (its own, too)", MERGE)
                .row("carried(0, %)", 15, 15)
                .due("carried(1, 1)", 2 + 8).due("carried(2, 2)", 4 + 8).due("carried(3, 4)", 8);
        run("15: CARRIED (bits), eight REVISIONS", "R:a;R0:a;R1:a;R2:a;R3:a;R4:a;R5:a;R6:a;")
                .due("carried(0, 0)", 255)
                .due("carried(7, 0)", 0).then("rules(0)").due("carried(0, 0)", 1).due("carried(7, 0)", 128);
        run("15: CARRIED past a REVISION that has it not", "R:a;R0:;R0 1:a;R1:a;").due("carried(0, 0)", 1 + 4)
                .due("carried(3, 0)", 8);
    }

    private static void carriedIfItIsNoOrigin() {
        run("15: CARRIED: its own, too, if it is one", MERGE).due("carried(1, 0)", 0).due("carried(1, 2)", 0)
                .due("carried(3, 0)", 0).due("carried(3, 3)", 0);
    }

    private static void carriedBad() {
        run("15: BAD", MERGE).leaves("carried(5, 0)", BAD).leaves("carried(-1, 0)", BAD).leaves("carried(0, 2)", BAD)
                .leaves("carried(0, -1)", BAD).leaves("carried(4, 0)", BAD).leaves("carried(3, 5)", BAD);
    }

    private static void keptInAnother() {
        run("16: KEPT of a REVISION in another one", MERGE).row("kept(0, %)", 2, 2, 2, 2, 0)
                .row("kept(1, %)", 0, 1, 0, 1, 0).row("kept(2, %)", 0, 0, 1, 1, 0).row("kept(4, %)", 0, 0, 0, 0, 0);
        run("16: KEPT, of eight LINES, none of the next REVISION", "R:abcdefgh;R:a;R1:a;").row("kept(0, %)", 8, 0, 0)
                .row("kept(1, %)", 0, 1, 1);
        run("16: KEPT, all eight", "R:abcdefgh;R0:abcdefgh;R1:;").row("kept(0, %)", 8, 8, 0);
    }

    private static void keptOnlyOrigins() {
        run("16: KEPT: LINES that are ORIGINS", "R:ab;R0:abc;R1:abcd;").row("kept(1, %)", 0, 1, 1)
                .row("kept(2, %)", 0, 0, 1).row("kept(0, %)", 2, 2, 2);
    }

    private static void keptEachOnce() {
        run("16: KEPT: how many of the former's LINES", "R:abqrs;R0:qrsabab;").due("kept(0, 1)", 5)
                .due("kept(1, 0)", 0);
        run("16: KEPT: one LINE, ORIGIN of four", "R:aqrst;R0:qrstaaaa;R0:a;").then("blocks(1)").due("kept(0, 1)", 5)
                .due("kept(0, 2)", 1);
    }

    private static void keptInItself() {
        run("16: KEPT in itself: its ORIGINS", MERGE).due("kept(0, 0)", 2).due("kept(1, 1)", 1).due("kept(3, 3)", 1)
                .due("kept(4, 4)", 0);
    }

    private static void keptBad() {
        run("16: BAD", MERGE).leaves("kept(5, 0)", BAD).leaves("kept(-1, 0)", BAD).leaves("kept(0, 5)", BAD)
                .leaves("kept(0, -1)", BAD).leaves("kept(8, 0)", BAD).leaves("kept(0, 8)", BAD);
    }

    private static void asThingsAreNow() {
        String sentence = "(As things are NOW; nothing is changed.)";
        run(sentence, MERGE).then("blocks(1)", "keep(0)", "sees(0, 0, 0, 1)").leaves("begun(3, 0)", 5)
                .leaves("age(3, 4)", 4).leaves("like(3, 0, 0)", 1).leaves("carried(0, 0)", 15).leaves("kept(0, 3)", 2)
                .leaves("gives(0, 3, 0)", 8)
                .leaves("common(3, 1)", 3).leaves("line(3, 0, 6)", 2).leaves("revision(3, 2)", 2)
                .leaves("count(5)", 5).leaves("unseen()", 31);
        run(sentence, "R:abc;R0:axc;").due("begun(1, 0)", 5).due("kept(1, 1)", 1).due("carried(0, 1)", 1)
                .row("age(1, %)", 0, 2, 1).due("like(1, 1, 0)", 0).then("passes(1)").due("begun(1, 0)", 7)
                .due("kept(1, 1)", 0).due("carried(0, 1)", 3).row("age(1, %)", 0, 1, 2).due("like(1, 1, 0)", 2)
                .then("undo()").due("begun(1, 0)", 5).due("kept(1, 1)", 1).due("carried(0, 1)", 1)
                .row("age(1, %)", 0, 2, 1).due("like(1, 1, 0)", 0);
    }
}
