/** The edges that the document names: the words on THE TEXT, and promises 1 to 4. A method a sentence. */
public final class EdgesOfTextTest {
    private static final Check CHECK = new Check("EdgesOfTextTest");
    private static final int BAD = LineOrigins.BAD, STATE = LineOrigins.STATE, FULL = LineOrigins.FULL;
    private static final int NONE = LineOrigins.NONE;

    public static void main(String[] args) {
        noRevisions();
        asAtFirst();
        letterFrom0To255();
        howManyItHas();
        fullAt120();
        badAheadOfFull();
        clearTellsHowMany();
        clearLeavesAllElse();
        textIsEmptyThen();
        howManyItems();
        faultChangesNothing();
        faultTextCanGoOn();
        readAnew();
        nothingIsLeft();
        revisionsAtMost();
        parentsAtMost();
        parentsToldAhead();
        linesAtMost();
        linesAToZ();
        blanks();
        tokens();
        itemsInOrder();
        numbers();
        firstFault();
        endsTooEarly();
        allAtMost();
        callsAtMost();
        CHECK.end();
    }

    private static Run run(String sentence) {
        return new Run(CHECK, sentence);
    }

    private static void noRevisions() {
        run("1: No REVISIONS").due("count(0)", 0).due("count(4)", 0).due("count(5)", 0)
                .leaves("revision(0, 0)", BAD).leaves("revision(-1, 0)", BAD).leaves("line(0, 0, 0)", BAD)
                .leaves("passes(0)", BAD).leaves("gives(0, 0, 0)", BAD).leaves("begun(0, 0)", BAD)
                .leaves("age(0, 0)", BAD).leaves("like(0, 0, 0)", BAD).leaves("carried(0, 0)", BAD)
                .leaves("kept(0, 0)", BAD).leaves("common(0, 0)", BAD).leaves("sees(0, 0, 0, 1)", BAD)
                .leaves("unseen()", 0);
    }

    private static void asAtFirst() {
        run("BLOCK at first 2, PASSED none at first, RULES all four at first")
                .row("count(%)", 0, 2, 0, 15, 0, 0, 0, 0, 0)
                .leaves("undo()", STATE).leaves("back(0)", STATE).leaves("back(1)", STATE)
                .leaves("forget()", 0).leaves("clear()", 0).leaves("blocks(2)", STATE);
        run("a new object can be SET, RULED, UNDONE and kept without REVISIONS")
                .due("blocks(0)", 2).due("rules(0)", 0).due("keep(1)", 0).due("undo()", 1).due("undo()", 0)
                .row("count(%)", 0, 2, 0, 15, 0, 0, 0, 0, 0).due("back(1)", 0)
                .row("count(%)", 0, 0, 0, 14, 0, 0, 0, 0, 0);
    }

    private static void letterFrom0To255() {
        run("2: a letter (0 .. 255)").type("R:").leaves("type(-1)", BAD).leaves("type(256)", BAD)
                .leaves("type(-2147483648)", BAD).leaves("type(2147483647)", BAD)
                .leaves("type(338)", BAD).leaves("type(-174)", BAD)
                .due("type(0)", 3).due("type(1)", 4).due("type(254)", 5).due("type(255)", 6);
    }

    private static void howManyItHas() {
        Run run = run("2: how many it has");
        for (int i = 1; i <= 120; i++) {
            run.due("type(32)", i).due("count(7)", i);
        }
    }

    private static void fullAt120() {
        String text = "R:abc;R0:axc;" + " ".repeat(106);
        run("2: FULL: 120").told("R:ab;").type(text).due("count(7)", 119).due("type(32)", 120)
                .leaves("type(59)", FULL).leaves("type(0)", FULL).leaves("type(255)", FULL).due("count(7)", 120)
                .due("history()", 2).due("type(59)", 1);
        run("a text (120 letters at most): cleared, it has room again").type(" ".repeat(120)).due("type(32)", FULL)
                .due("clear()", 120).due("type(32)", 1);
    }

    private static void badAheadOfFull() {
        run("Refused, the first of these: BAD, .., FULL").type(" ".repeat(120)).leaves("type(256)", BAD)
                .leaves("type(-1)", BAD).leaves("type(32)", FULL);
        run("BAD below 120, too").type(" ".repeat(119)).leaves("type(256)", BAD).due("type(255)", 120);
    }

    private static void clearTellsHowMany() {
        run("3: how many letters it had").leaves("clear()", 0).type("R").due("clear()", 1).leaves("clear()", 0)
                .type("R:").due("clear()", 2).due("count(7)", 0);
        run("3: of 119").type(" ".repeat(119)).due("clear()", 119);
        run("3: of 120").type(" ".repeat(120)).due("clear()", 120).leaves("clear()", 0);
    }

    private static void clearLeavesAllElse() {
        run("3: THE TEXT is empty, nothing else").told("R:abc;R0:axc;")
                .then("blocks(1)", "passes(1)", "keep(0)", "rules(2)", "sees(1, 1, 0, 1)").type("R:q").due("clear()", 3)
                .row("count(%)", 2, 1, 2, 11, 6, 3, 1, 0, 3).due("line(1, 1, 4)", 0).due("undo()", 2)
                .due("back(0)", 1);
    }

    private static void textIsEmptyThen() {
        run("4: THE TEXT is empty then").told("R:ab;").due("count(7)", 0).leaves("clear()", 0).due("type(82)", 1)
                .due("count(7)", 1);
    }

    private static void howManyItems() {
        run("4: how many ITEMS: none").due("history()", 0).due("count(0)", 0);
        run("4: how many ITEMS: blanks alone").type(" ").due("history()", 0).due("count(7)", 0);
        run("4: how many ITEMS: 120 blanks").type(" ".repeat(120)).due("history()", 0).due("count(7)", 0);
        for (int items = 1; items <= 8; items++) {
            run("4: how many ITEMS: " + items).type("R:;".repeat(items)).due("history()", items)
                    .due("count(0)", items)
                    .leaves("revision(" + items + ", 0)", BAD).due("revision(" + (items - 1) + ", 0)", 0);
        }
        run("4: no ITEMS tell all anew, too").told("R:ab;R0:b;").then("blocks(4)", "passes(0)").due("history()", 0)
                .row("count(%)", 0, 2, 0, 15, 0, 0, 0, 0, 0).leaves("revision(0, 0)", BAD).leaves("undo()", STATE);
    }

    private static Run rich() {
        return run("4: -10 less FAULT: nothing changes").told("R:abcd;R0:xabd;R0:cdab;R1 2:xcdb;")
                .then("blocks(1)", "passes(1)", "keep(1)", "rules(0)", "sees(1, 0, 1, 0)");
    }

    private static void faultChangesNothing() {
        rich().type("Y").leaves("history()", -10);
        rich().type("RY").leaves("history()", -11);
        rich().type("R:zz;R0:z").leaves("history()", -19);
        rich().type("R:;".repeat(9)).leaves("history()", -34);
        rich().type(" ".repeat(119) + "Y").leaves("history()", -129);
        rich().type("R:" + " ".repeat(118)).leaves("history()", -130);
    }

    private static void faultTextCanGoOn() {
        run("4: behind a FAULT the text stays as it was").type("R:a").leaves("history()", -13).due("count(7)", 3)
                .due("type(98)", 4).leaves("history()", -14).due("type(59)", 5).due("history()", 1)
                .due("revision(0, 0)", 2).due("line(0, 1, 0)", 'b');
        run("4: a FAULT on a new object").type(";").leaves("history()", -10).due("count(0)", 0).due("clear()", 1)
                .due("history()", 0);
    }

    private static void readAnew() {
        Run run = run("Read anew: as told, else as at first; nothing UNDONE, nothing SEEN, IMAGES are gone")
                .told("R:abcd;R0:cdab;R0:abcd;")
                .then("blocks(4)", "passes(1)", "passes(2)", "rules(2)", "keep(0)", "keep(1)")
                .then("sees(0, 0, 0, 1)", "sees(1, 3, 0, 0)").told("R:abcd;R0:cdab;")
                .row("count(%)", 2, 2, 0, 15, 8, 4, 0, 0, 0).leaves("undo()", STATE).leaves("back(0)", STATE)
                .leaves("back(1)", STATE).leaves("forget()", 0).due("unseen()", 3)
                .row("revision(1, %)", 4, 0, NONE, 0)
                .due("line(1, 2, 3)", 2).leaves("revision(2, 0)", BAD).leaves("line(2, 0, 0)", BAD)
                .leaves("passes(2)", BAD);
        run.due("keep(0)", 2).due("back(0)", 2).leaves("back(1)", STATE);
    }

    /** Each text behind each other one: fewer and more REVISIONS, LINES, PARENTS, PAIRS and moved rows. */
    private static void nothingIsLeft() {
        String[] texts = {"", "R:;", "R:abcde;R0:deabc;R0:abcde;R1 2:abcde;", "R:abcde;R0:xyabc;R0:z;R2 0:;",
            "R:abqr;R0:qrab;R1:abqrxyzw;", "R:xyzw;R:abqr;R1:qrab;", "R:a;R:b;R:c;R:d;R:e;R:f;R:g;R0 1:ab;"};
        for (String first : texts) {
            for (String second : texts) {
                run("4: tells all anew, behind " + first).told(first)
                        .then("blocks(1)", "rules(0)", "passes(0)", "keep(0)", "sees(0, 0, 0, 1)")
                        .told(second).isAsTold(second).leaves("line(8, 0, 0)", BAD);
            }
        }
    }

    private static void fault(String sentence, String text, int fault) {
        run(sentence + ": '" + text + "'").told("R:ab;R0:b;").type(text).leaves("history()", -10 - fault);
    }

    private static Run well(String sentence, String text, int items) {
        return run(sentence + ": '" + text + "'").type(text).due("history()", items);
    }

    private static void revisionsAtMost() {
        String sentence = "REVISIONS 0, 1, .. (8 at most), FAULT: a ninth R";
        well(sentence, "R:;".repeat(7), 7).due("count(0)", 7).leaves("revision(7, 0)", BAD);
        well(sentence, "R:;".repeat(8), 8).due("count(0)", 8).due("revision(7, 0)", 0).leaves("revision(8, 0)", BAD);
        fault(sentence, "R:;".repeat(8) + "R", 24);
        fault(sentence, "R:;".repeat(8) + "R:;", 24);
        fault(sentence, "R:;".repeat(8) + " R:;", 25);
        fault(sentence, "R:;".repeat(9) + "R:;", 24);
        // Another TOKEN behind the eighth ITEM can't stand there either.
        fault(sentence, "R:;".repeat(8) + ";", 24);
        fault(sentence, "R:;".repeat(8) + "a", 24);
    }

    private static void parentsAtMost() {
        String sentence = "no, one or two unlike PARENTS, FAULT: the same again, a third NUMBER";
        well(sentence, "R:;R:;R:;", 3).row("revision(2, %)", 0, NONE, NONE, 0);
        well(sentence, "R:;R:;R1:;", 3).row("revision(2, %)", 0, 1, NONE, 0);
        well(sentence, "R:;R:;R0 1:;", 3).row("revision(2, %)", 0, 0, 1, 0);
        well(sentence, "R:;R:;R1 0:;", 3).row("revision(2, %)", 0, 1, 0, 0);
        fault(sentence, "R:;R:;R0 0:;", 9);
        fault(sentence, "R:;R:;R1 1:;", 9);
        fault(sentence, "R:;R:;R1  1:;", 10);
        fault(sentence, "R:;R:;R:;R0 1 2:;", 14);
        fault(sentence, "R:;R:;R:;R0 1 0:;", 14);
        fault(sentence, "R:;R:;R:;R0 1 1:;", 14);
        fault(sentence, "R:;R:;R:;R0 0 1:;", 12);
        // PARENTS of the ITEM ahead are no PARENTS of the next one.
        well(sentence, "R:;R0:;R0:;R0 1:;R0 1:;", 5).row("revision(4, %)", 0, 0, 1, 0);
    }

    private static void parentsToldAhead() {
        String sentence = "PARENTS (REVISIONS told ahead), FAULT: a PARENT that is not told ahead";
        fault(sentence, "R0:;", 1);
        fault(sentence, "R:;R1:;", 4);
        fault(sentence, "R:;R2:;", 4);
        fault(sentence, "R:;R0 1:;", 6);
        fault(sentence, "R:;R1 0:;", 4);
        fault(sentence, "R:;R1:;R:;", 4);
        String eight = "R:;".repeat(7);
        well(sentence, eight + "R6:;", 8).row("revision(7, %)", 0, 6, NONE, 0);
        well(sentence, eight + "R5 6:;", 8).row("revision(7, %)", 0, 5, 6, 0);
        well(sentence, eight + "R0 6:;", 8).row("revision(7, %)", 0, 0, 6, 0);
        fault(sentence, eight + "R7:;", 22);
        fault(sentence, eight + "R6 7:;", 24);
        fault(sentence, eight + "R8:;", 22);
        fault(sentence, eight + "R10:;", 22);
        fault(sentence, eight + "R0 99:;", 24);
    }

    private static void linesAtMost() {
        String sentence = "LINES 0, 1, .. (8 at most), FAULT: a ninth letter";
        String letters = "zyxwvuts";
        for (int lines = 0; lines <= 8; lines++) {
            Run run = well(sentence, "R:" + letters.substring(0, lines) + ";", 1).due("revision(0, 0)", lines)
                    .due("count(4)", lines).leaves("line(0, " + lines + ", 0)", BAD);
            if (lines > 0) {
                run.due("line(0, " + (lines - 1) + ", 0)", letters.charAt(lines - 1));
            }
        }
        fault(sentence, "R:zyxwvutsr;", 10);
        fault(sentence, "R:zyxwvutsrq;", 10);
        fault(sentence, "R:zyxwvuts  r;", 12);
        fault(sentence, "R:aaaaaaaaa", 10);
        fault(sentence, "R:abcdefgh;R0:abcdefghi;", 22);
        well(sentence, "R:abcdefgh;R0:abcdefgh;", 2).due("count(4)", 16);
    }

    private static void linesAToZ() {
        String sentence = "each a letter a .. z";
        well(sentence, "R:abyz;", 1).due("line(0, 0, 0)", 'a').due("line(0, 1, 0)", 'b').due("line(0, 2, 0)", 'y')
                .due("line(0, 3, 0)", 'z');
        well(sentence, "R:r;", 1).due("line(0, 0, 0)", 'r');
        fault(sentence, "R:`;", 2);
        fault(sentence, "R:{;", 2);
        fault(sentence, "R:a`;", 3);
        fault(sentence, "R:z{;", 3);
        fault(sentence, "R:A;", 2);
        fault(sentence, "R:Z;", 2);
        well("letters (each by itself)", "R:aa a;", 1).due("revision(0, 0)", 3);
    }

    private static void blanks() {
        String sentence = "blanks (32) between TOKENS";
        well(sentence, "R:ab;R0:b;R0 1:;", 3);
        well(sentence, "  R  :  a  b  ;  R  0  :  b  ;  R  0  1  :  ;  ", 3).due("revision(0, 0)", 2)
                .row("revision(2, %)", 0, 0, 1, 0);
        well(sentence, " ".repeat(117) + "R:;", 1);
        well(sentence, "R:;" + " ".repeat(117), 1);
        for (int other : new int[] {0, 9, 10, 13, 31, 33, 95, 160, 255}) {
            fault(sentence, (char) other + "R:;", 0);
            fault(sentence, "R:;" + (char) other, 3);
            fault(sentence, "R:a" + (char) other + "b;", 3);
            fault(sentence, "R:;R:;R0" + (char) other + "1:;", 8);
        }
        // A blank ends a NUMBER: 1 and 0, and not 10.
        well(sentence, "R:;R:;R1 0:;", 3).due("revision(2, 1)", 1).due("revision(2, 2)", 0);
        fault(sentence, "R:;R:;R10:;", 7);
    }

    private static void tokens() {
        String sentence = "TOKENS are R, : , ; , letters, NUMBERS; FAULT of any other letter";
        // The neighbours of every TOKEN's letters.
        for (char other : new char[] {'Q', 'S', '/', '<', '`', '{', '@', '[', 'P'}) {
            fault(sentence, other + ":;", 0);
            fault(sentence, "R" + other + ":;", 1);
            fault(sentence, "R:" + other + ";", 2);
            fault(sentence, "R:;R0" + other + ":;", 5);
            fault(sentence, "R:;  " + other, 5);
        }
        fault(sentence, "r:;", 0);
        fault(sentence, "R:;r:;", 3);
        fault(sentence, "R,;", 1);
        fault(sentence, "R-1:;", 1);
        fault(sentence, "R:;R+0:;", 4);
    }

    private static void itemsInOrder() {
        String sentence = "ITEMS, each ended by ; : R, NUMBERS, : and letters";
        String[] wrongAtFirst = {":", ";", "a", "0", "7"};
        for (String token : wrongAtFirst) {
            fault(sentence + ", R first", token, 0);
            fault(sentence + ", R first", "R:;" + token, 3);
        }
        for (String token : new String[] {"R", ";", "a"}) {
            fault(sentence + ", behind R", "R" + token, 1);
            fault(sentence + ", behind a NUMBER", "R:;R0" + token, 5);
            fault(sentence + ", behind two NUMBERS", "R:;R:;R0 1" + token, 10);
        }
        for (String token : new String[] {"R", ":", "0", "00", "100"}) {
            fault(sentence + ", behind :", "R:" + token, 2);
            fault(sentence + ", behind a letter", "R:a" + token, 3);
            fault(sentence + ", behind eight letters", "R:abcdefgh" + token, 10);
        }
        fault(sentence + ", a NUMBER told ahead is none of the LINES", "R:;R0:0;", 6);
    }

    private static void numbers() {
        String sentence = "FAULT: a NUMBER above 99 or with a 0 ahead of others";
        well(sentence, "R:;R0:;", 2).due("revision(1, 1)", 0);
        fault(sentence, "R:;R00:;", 4);
        fault(sentence, "R:;R000:;", 4);
        fault(sentence, "R:;R:;R01:;", 7);
        fault(sentence, "R:;R:;R1 00:;", 9);
        fault(sentence, "R:;R:;R0 01:;", 9);
        fault(sentence, "R:;R:;R0 001:;", 9);
        fault(sentence, "R:;R09:;", 4);
        fault(sentence, "R:;R:;R19:;", 7);
        fault(sentence, "R:;R:;R1 9:;", 9);
        fault(sentence, "R:;R99:;", 4);
        fault(sentence, "R:;R100:;", 4);
        fault(sentence, "R:;R101:;", 4);
        fault(sentence, "R:;R999:;", 4);
        fault(sentence, "R:;R0 100:;", 6);
        for (int number = 8; number <= 101; number++) {
            fault(sentence, "R:;".repeat(7) + "R" + number + ":;", 22);
            fault(sentence, "R:;".repeat(7) + "R " + number + " :;", 23);
            fault(sentence, "R:;".repeat(7) + "R0 " + number + " :;", 24);
            fault(sentence, "R:;".repeat(7) + "R0 " + number + ";", 24);
        }
        // What would be 0 again if it wrapped around.
        fault(sentence, "R:;R256:;", 4);
        fault(sentence, "R:;R65536:;", 4);
        fault(sentence, "R:;R4294967296:;", 4);
        fault(sentence, "R:;R18446744073709551616:;", 4);
        fault(sentence, "R:;R" + "0".repeat(116), 4);
        fault(sentence, "R:;R" + "9".repeat(116), 4);
        fault(sentence, "R:;R0:;R0 1 00:;", 12);
    }

    private static void firstFault() {
        String sentence = "FAULT: the place of the first letter of the first TOKEN that can't stand there";
        fault(sentence, "Y", 0);
        fault(sentence, "Y Y", 0);
        fault(sentence, "R:;R9:;Y", 4);
        fault(sentence, "Ra Y", 1);
        fault(sentence, "R Y a", 2);
        fault(sentence, "R:a;b R:;R00:;", 4);
        fault(sentence, " ".repeat(119) + "Y", 119);
        // The NUMBER's first letter, though only a later one makes it wrong.
        fault(sentence, "R:;R:;R  1  1000:;", 12);
        // A FAULT comes ahead of an end that is too early.
        fault(sentence, "R:;R0 0", 6);
        fault(sentence, "R:abcdefghi", 10);
    }

    private static void endsTooEarly() {
        String sentence = "the text's length, if it ends too early";
        fault(sentence, "R", 1);
        fault(sentence, "R ", 2);
        fault(sentence, "R:", 2);
        fault(sentence, "R:a", 3);
        fault(sentence, "R:a   ", 6);
        fault(sentence, "R:abcdefgh", 10);
        fault(sentence, "R:;R", 4);
        fault(sentence, "R:;R0", 5);
        fault(sentence, "R:;R:;R0 1", 10);
        fault(sentence, "R:;R:;R0 1:", 11);
        fault(sentence, "R:;".repeat(7) + "R", 22);
        fault(sentence, "R:;".repeat(7) + "R:", 23);
        fault(sentence, " ".repeat(119) + "R", 120);
        fault(sentence, "R" + " ".repeat(118), 119);
        fault(sentence, "R" + " ".repeat(119), 120);
        fault(sentence, "R:;" + " ".repeat(115) + "R0", 120);
        fault(sentence, "R:;" + " ".repeat(114) + "R0", 119);
        // Letters of an earlier text are none of this one's, though they stood where it ends.
        run(sentence + ", cleared").type("R:;R00:;").due("clear()", 8).type("R:;R0").leaves("history()", -15);
        run(sentence + ", cleared").type("R:a;R0:a;").due("clear()", 9).type("R:a").leaves("history()", -13);
        run(sentence + ", read").told("R:;R0:;R0 1:;").type("R:;R0:;R0").leaves("history()", -19);
    }

    /** Eight REVISIONS of eight LINES, all PARENTS that can be, in 120 letters. */
    private static void allAtMost() {
        String text = "R:abcdefgh;R0:abcdefgh;";
        for (int r = 2; r < 8; r++) {
            text += "R" + (r - 1) + " " + (r - 2) + ":abcdefgh;";
        }
        text += " ".repeat(120 - text.length());
        well("all at most", text, 8).row("count(%)", 8, 2, 0, 15, 64, 8, 0, 0, 0).row("revision(7, %)", 8, 6, 5, 0)
                .row("line(7, 7, %)", 'h', 7, 7, 0, 0, 7, 7).due("carried(0, 7)", 255).due("begun(7, 0)", 255);
    }

    private static void callsAtMost() {
        Run run = run("An object is used for at most 512 calls: the last of them is answered still")
                .told("R:abc;R0:axc;");
        int turn = 0;
        for (int call = 15; call < 512; call++) {
            turn = 1 - turn;
            run.then("passes(1)");
        }
        run.due("line(1, 1, 3)", turn == 1 ? 3 : NONE);
    }
}
