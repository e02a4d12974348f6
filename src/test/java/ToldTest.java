/** Promises 1 to 4: a new object, type, clear, history. */
public final class ToldTest {
    private static final Check CHECK = new Check("ToldTest");

    public static void main(String[] args) {
        newObject();
        type();
        clear();
        wellTold();
        faults();
        otherLetters();
        faultChangesNothing();
        toldAnew();
        nothingIsLeftOfEarlierOnes();
        CHECK.end();
    }

    private static void newObject() {
        LineOrigins x = new LineOrigins();
        int[] counts = {0, 2, 0, 15, 0, 0, 0, 0, 0};
        for (int what = 0; what < counts.length; what++) {
            CHECK.due("new: count(" + what + ")", x.count(what), counts[what]);
        }
        CHECK.due("new: revision(0, 0)", x.revision(0, 0), LineOrigins.BAD);
        CHECK.due("new: line(0, 0, 0)", x.line(0, 0, 0), LineOrigins.BAD);
        CHECK.due("new: passes(0)", x.passes(0), LineOrigins.BAD);
        CHECK.due("new: gives(0, 0, 0)", x.gives(0, 0, 0), LineOrigins.BAD);
        CHECK.due("new: begun(0, 0)", x.begun(0, 0), LineOrigins.BAD);
        CHECK.due("new: sees(0, 0, 0, 0)", x.sees(0, 0, 0, 0), LineOrigins.BAD);
        CHECK.due("new: unseen()", x.unseen(), 0);
        CHECK.due("new: undo()", x.undo(), LineOrigins.STATE);
        CHECK.due("new: back(0)", x.back(0), LineOrigins.STATE);
        CHECK.due("new: back(1)", x.back(1), LineOrigins.STATE);
        CHECK.due("new: forget()", x.forget(), 0);
        CHECK.due("new: clear()", x.clear(), 0);
        CHECK.due("new: history()", x.history(), 0);
    }

    private static void type() {
        LineOrigins x = new LineOrigins();
        CHECK.due("type(0)", x.type(0), 1);
        CHECK.due("type(255)", x.type(255), 2);
        CHECK.due("type(256)", x.type(256), LineOrigins.BAD);
        CHECK.due("type(-1)", x.type(-1), LineOrigins.BAD);
        CHECK.due("type(most)", x.type(Integer.MAX_VALUE), LineOrigins.BAD);
        CHECK.due("type(least)", x.type(Integer.MIN_VALUE), LineOrigins.BAD);
        CHECK.due("count(7) behind BAD", x.count(7), 2);
        for (int i = 3; i <= 120; i++) {
            CHECK.due("letter " + i, x.type(' '), i);
        }
        CHECK.due("the 121st letter", x.type(' '), LineOrigins.FULL);
        CHECK.due("BAD comes ahead of FULL", x.type(256), LineOrigins.BAD);
        CHECK.due("count(7) behind FULL", x.count(7), 120);
        CHECK.due("a letter 0 is a FAULT", x.history(), -10);
    }

    private static void clear() {
        LineOrigins x = Check.told("R:ab;");
        Check.type(x, "R:c;");
        CHECK.due("clear() of 4", x.clear(), 4);
        CHECK.due("clear() again", x.clear(), 0);
        CHECK.due("count(7) behind clear()", x.count(7), 0);
        CHECK.due("clear() leaves the REVISIONS", x.revision(0, 0), 2);
        CHECK.due("type behind clear()", x.type('R'), 1);
        for (int i = 2; i <= 120; i++) {
            x.type(' ');
        }
        CHECK.due("clear() of 120", x.clear(), 120);
        CHECK.due("room again", x.type('a'), 1);
    }

    private static void well(String text, int items) {
        LineOrigins x = new LineOrigins();
        Check.type(x, text);
        CHECK.due("'" + text + "': history()", x.history(), items);
        CHECK.due("'" + text + "': count(0)", x.count(0), items);
        CHECK.due("'" + text + "': count(7)", x.count(7), 0);
    }

    private static void wellTold() {
        well("", 0);
        well("   ", 0);
        well("R:;", 1);
        well("R:az;", 1);
        well("R:abcdefgh;", 1);
        well(" R : a b ; R 0 : b ; ", 2);
        well("R:;R:;R0 1:ab;R1 0:;", 4);
        well("R:;R0:;R1:;R2:;R3:;R4:;R5:;R6 0:;", 8);
        well("R:;".repeat(8), 8);
        well("R:;" + " ".repeat(117), 1);
        well(" ".repeat(117) + "R:;", 1);
        well("R:abcdefgh;R0:abcdefgh;R1:abcdefgh;R2:abcdefgh;R3:abcdefgh;R4:abcdefgh;R5:abcdefgh;R6:abcdefgh;", 8);
    }

    private static void fault(String text, int fault) {
        LineOrigins x = Check.told("R:ab;R0:b;");
        Check.type(x, text);
        CHECK.due("'" + text + "': history()", x.history(), -10 - fault);
        CHECK.due("'" + text + "': the text stays", x.clear(), text.length());
        CHECK.due("'" + text + "': the REVISIONS stay", x.count(0), 2);
    }

    private static void faults() {
        fault("R:abcdefghi;", 10);
        fault("R:abcdefgh i;", 11);
        fault("R:;".repeat(8) + "R", 24);
        fault("R:;".repeat(8) + "  R:;", 26);
        fault("R0:;", 1);
        fault("R:;R1:;", 4);
        fault("R:;R8:;", 4);
        fault("R:;R 9:;", 5);
        fault("R:;R0 0:;", 6);
        fault("R:;R0 1:;", 6);
        fault("R:;R:;R:;R0 1 2:;", 14);
        fault("R:;R:;R0 1 0:;", 11);
        fault("R:;R:;R0  99:;", 10);
        fault("R:;R99:;", 4);
        fault("R:;R100:;", 4);
        fault("R:;R00:;", 4);
        fault("R:;R:;R01:;", 7);
        fault("R:;R:;R10:;", 7);
        for (char digit = '0'; digit <= '9'; digit++) {
            fault("R:;R0" + digit + ":;", 4);
            fault("R:;R " + digit + "0:;", 5);
            fault("R:" + digit + ";", 2);
        }
        fault("R:;R000000000000000000000:;", 4);
        fault("R:;R99999999999999999999999999999:;", 4);
        fault("R:;R4294967296:;", 4);
        fault("R", 1);
        fault("R  ", 3);
        fault("R:", 2);
        fault("R:a", 3);
        fault("R:a  ", 5);
        fault("R:;R0", 5);
        fault("R:;R0:", 6);
        fault("R;", 1);
        fault("R::;", 2);
        fault("R:a:;", 3);
        fault("Ra:;", 1);
        fault("RR:;", 1);
        fault("R:;R0a:;", 5);
        fault("R:;R0R:;", 5);
        fault("R:;R0;", 5);
        fault("R:R;", 2);
        fault("R:aR:;", 3);
        fault("R:0;", 2);
        fault("R:a0;", 3);
        fault("R:a;;", 4);
        fault("0", 0);
        fault(":", 0);
        fault(";", 0);
        fault("a", 0);
        fault("  7", 2);
        fault("R:a;b", 4);
        fault("a Y", 0);
        fault("R:a" + " ".repeat(117), 120);
    }

    private static void otherLetters() {
        for (int letter = 0; letter <= 255; letter++) {
            if (letter == ' ' || (letter >= '0' && letter <= ';') || (letter >= 'a' && letter <= 'z')
                    || letter == 'R') {
                continue;
            }
            fault("" + (char) letter, 0);
            fault("R" + (char) letter + ":;", 1);
            fault("R: a" + (char) letter + ";", 4);
        }
    }

    private static void faultChangesNothing() {
        LineOrigins x = Check.told("R:abcd;R0:xabd;R0:cdab;R1 2:xcdb;");
        x.blocks(1);
        x.passes(1);
        x.rules(0);
        x.keep(1);
        x.sees(1, 0, 1, 0);
        Check.type(x, "R:zz;R0:z");
        String before = Check.look(x);
        CHECK.due("the text ends too early", x.history(), -19);
        CHECK.due("nothing changes", Check.look(x).equals(before));
        CHECK.due("the IMAGE is there", x.back(1), 1);
    }

    private static void toldAnew() {
        LineOrigins x = Check.told("R:abcd;R0:cdab;");
        x.blocks(4);
        x.passes(1);
        x.rules(2);
        x.keep(0);
        x.keep(1);
        x.sees(0, 0, 0, 1);
        Check.type(x, "R:abcd;R0:cdab;");
        CHECK.due("told anew", x.history(), 2);
        int[] counts = {2, 2, 0, 15, 8, 4, 0, 0, 0};
        for (int what = 0; what < counts.length; what++) {
            CHECK.due("told anew: count(" + what + ")", x.count(what), counts[what]);
        }
        CHECK.due("told anew: undo()", x.undo(), LineOrigins.STATE);
        CHECK.due("told anew: back(0)", x.back(0), LineOrigins.STATE);
        CHECK.due("told anew: back(1)", x.back(1), LineOrigins.STATE);
        CHECK.due("told anew: line(1, 2, 3)", x.line(1, 2, 3), 2);
        CHECK.due("an empty text tells no REVISIONS", x.history(), 0);
        CHECK.due("none: count(0)", x.count(0), 0);
        CHECK.due("none: revision(0, 0)", x.revision(0, 0), LineOrigins.BAD);
    }

    private static void nothingIsLeftOfEarlierOnes() {
        LineOrigins x = Check.told("R:abcd;R0:cdab;R0 1:abcdefgh;");
        x.passes(1);
        Check.type(x, "R:ab;R:abc;R1:z;");
        x.history();
        CHECK.due("as if told first", Check.look(x).equals(Check.look(Check.told("R:ab;R:abc;R1:z;"))));
        Check.type(x, "R:ab;");
        x.history();
        CHECK.due("fewer: line(1, 0, 0)", x.line(1, 0, 0), LineOrigins.BAD);
        CHECK.due("fewer: revision(1, 0)", x.revision(1, 0), LineOrigins.BAD);
        CHECK.due("fewer: count(4)", x.count(4), 2);
        x = Check.told("R:abcde;R0:deabc;");
        CHECK.due("moved: line(1, 0, 3)", x.line(1, 0, 3), 2);
        Check.type(x, "R:abcde;R0:xyabc;");
        x.history();
        CHECK.due("not moved any more: line(1, 0, 3)", x.line(1, 0, 3), LineOrigins.NONE);
        CHECK.due("not moved any more: line(1, 1, 3)", x.line(1, 1, 3), LineOrigins.NONE);
    }
}
