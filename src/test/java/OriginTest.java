/** Promises 11 to 17: gives, begun, age, like, carried, kept, common. */
public final class OriginTest {
    private static final Check CHECK = new Check("OriginTest");
    private static final int NONE = LineOrigins.NONE;

    public static void main(String[] args) {
        givesByPairs();
        givesMoved();
        movedRowsAsLong();
        givesPassed();
        badGives();
        orderOfRules();
        begun();
        age();
        like();
        carried();
        kept();
        common();
        CHECK.end();
    }

    private static void gives(LineOrigins x, int rule, int r, int... due) {
        for (int k = 0; k < due.length; k++) {
            CHECK.due("gives(" + rule + ", " + r + ", " + k + ")", x.gives(rule, r, k), due[k]);
        }
    }

    private static void givesByPairs() {
        LineOrigins x = Check.told("R:ab;R0:axb;R0:aby;R1 2:axby;");
        for (int rule = 0; rule < 4; rule++) {
            gives(x, rule, 0, NONE, NONE);
        }
        gives(x, 0, 1, 0, NONE, 1);
        gives(x, 1, 1, NONE, NONE, NONE);
        gives(x, 0, 3, 8, 9, 10, NONE);
        gives(x, 1, 3, 16, NONE, 17, 18);
        x.rules(0);
        x.rules(1);
        gives(x, 0, 3, 8, 9, 10, NONE);
        gives(x, 1, 3, 16, NONE, 17, 18);
    }

    private static void givesMoved() {
        LineOrigins x = Check.told("R:z;R:abcd;R1 0:cdab;");
        gives(x, 2, 2, NONE, NONE, 8, 9);
        x.rules(2);
        gives(x, 2, 2, NONE, NONE, 8, 9);
        x.blocks(3);
        gives(x, 2, 2, NONE, NONE, NONE, NONE);
        x.blocks(1);
        gives(x, 2, 2, NONE, NONE, 8, 9);
        x.blocks(0);
        gives(x, 2, 2, NONE, NONE, NONE, NONE);
        x = Check.told("R:abcdqrst;R0:qrstabcd;R0:qrstabc;");
        x.blocks(4);
        gives(x, 2, 1, NONE, NONE, NONE, NONE, 0, 1, 2, 3);
        gives(x, 2, 2, NONE, NONE, NONE, NONE, NONE, NONE, NONE);
        x = Check.told("R:abcde;R0:deabc;");
        gives(x, 2, 1, 3, 4, NONE, NONE, NONE);
        // The b of ab has a PAIR in the PARENT, so it belongs to no row.
        x = Check.told("R:abqr;R0:bqrab;");
        gives(x, 2, 1, NONE, NONE, NONE, NONE, NONE);
        x.blocks(1);
        gives(x, 2, 1, NONE, NONE, NONE, 0, NONE);
    }

    /** In all of these qrs or qrst have PAIRS; the rest of both sides has none. */
    private static void movedRowsAsLong() {
        LineOrigins x = Check.told("R:ababqrst;R0:qrstab;R0:qrstabab;R0:qrstbab;R0:qrstaba;");
        gives(x, 2, 1, NONE, NONE, NONE, NONE, 0, 1);
        gives(x, 2, 3, NONE, NONE, NONE, NONE, 1, 2, 3);
        gives(x, 2, 4, NONE, NONE, NONE, NONE, 0, 1, 2);
        x = Check.told("R:aaqrst;R0:qrstaaa;");
        gives(x, 2, 1, NONE, NONE, NONE, NONE, 0, 1, 1);
        x = Check.told("R:baxabqrs;R0:qrsaba;");
        gives(x, 2, 1, NONE, NONE, NONE, 3, 0, 1);
        x = Check.told("R:abqrs;R0:qrsxab;R0:qrsabab;");
        gives(x, 2, 1, NONE, NONE, NONE, NONE, 0, 1);
        gives(x, 2, 2, NONE, NONE, NONE, 0, 1, 0, 1);
    }

    private static void givesPassed() {
        LineOrigins x = Check.told("R:;R0:abc;R1:axc;R1:axyc;R1:xbc;R1:abcx;R1:xyz;");
        gives(x, 3, 2, NONE, NONE, NONE);
        for (int r = 1; r <= 6; r++) {
            x.passes(r);
        }
        x.rules(3);
        gives(x, 3, 1, NONE, NONE, NONE);
        gives(x, 3, 2, NONE, 9, NONE);
        gives(x, 3, 3, NONE, 9, NONE, NONE);
        gives(x, 3, 4, 8, NONE, NONE);
        gives(x, 3, 5, NONE, NONE, NONE, NONE);
        gives(x, 3, 6, 8, 9, 10);
        x.passes(2);
        gives(x, 3, 2, NONE, NONE, NONE);
        x = Check.told("R:acde;R0:axyzd;R:xab;R2:ab;");
        x.passes(1);
        // The fourth LINE's place has no PAIR, but one between has.
        gives(x, 3, 1, NONE, 1, NONE, NONE, NONE);
        // A LINE with a PAIR of its own is not ruled out: the PAIR ahead of it decides.
        x.passes(3);
        gives(x, 3, 3, 16, NONE);
    }

    private static void badGives() {
        LineOrigins x = Check.told("R:abc;R0:axc;");
        int[][] wrong = {{4, 1, 0}, {-1, 1, 0}, {0, 2, 0}, {0, -1, 0}, {0, 1, 3}, {0, 1, -1},
            {Integer.MAX_VALUE, 1, 0}, {0, Integer.MIN_VALUE, 0}, {0, 0, Integer.MAX_VALUE}};
        for (int[] call : wrong) {
            CHECK.due("gives(" + call[0] + ", " + call[1] + ", " + call[2] + ")", x.gives(call[0], call[1], call[2]),
                    LineOrigins.BAD);
        }
    }

    /** One LINE for which each of the four RULES gives another LINE: the first one that is on decides. */
    private static void orderOfRules() {
        LineOrigins x = Check.told("R:bxa;R:a;R0 1:ya;");
        x.blocks(1);
        x.passes(2);
        CHECK.due("FIRST", x.line(2, 1, 3), 0);
        x.rules(0);
        CHECK.due("SECOND", x.line(2, 1, 3), 1);
        CHECK.due("SECOND: ORIGIN", x.line(2, 1, 4), 1);
        x.rules(1);
        CHECK.due("PASSED", x.line(2, 1, 3), 3);
        CHECK.due("PASSED: ORIGIN", x.line(2, 1, 5), 1);
        x = Check.told("R:cab;R:a;R0 1:ba;");
        x.blocks(1);
        x.passes(2);
        // PAIRS pass over c and a: b has one, a is MOVED and has a PAIR in the second PARENT.
        CHECK.due("no PAIR in the first PARENT", x.line(2, 1, 1), NONE);
        CHECK.due("SECOND comes ahead of MOVED", x.line(2, 1, 3), 1);
        x.rules(1);
        CHECK.due("MOVED", x.line(2, 1, 3), 2);
        CHECK.due("MOVED: LINE", x.line(2, 1, 5), 1);
        x = Check.told("R:xaqw;R0:xqa;");
        x.blocks(1);
        x.passes(1);
        CHECK.due("MOVED comes ahead of PASSED", x.line(1, 2, 3), 2);
        CHECK.due("MOVED: LINE 1", x.line(1, 2, 5), 1);
        x.rules(2);
        CHECK.due("PASSED behind it", x.line(1, 2, 3), 3);
        CHECK.due("PASSED: LINE 3", x.line(1, 2, 5), 3);
    }

    private static void begun() {
        LineOrigins x = Check.told("R:ab;R0:axb;R0:aby;R1 2:axbyz;");
        CHECK.due("begun(3, 0)", x.begun(3, 0), 5);
        CHECK.due("begun(3, 1)", x.begun(3, 1), 2);
        CHECK.due("begun(3, 2)", x.begun(3, 2), 8);
        CHECK.due("begun(3, 3), itself", x.begun(3, 3), 16);
        CHECK.due("begun(0, 0)", x.begun(0, 0), 3);
        CHECK.due("begun(0, 3)", x.begun(0, 3), 0);
        x.rules(0);
        CHECK.due("begun(3, 2) without FIRST", x.begun(3, 2), 13);
        int[][] wrong = {{4, 0}, {-1, 0}, {0, 4}, {0, -1}, {Integer.MIN_VALUE, 0}, {0, Integer.MAX_VALUE}};
        for (int[] call : wrong) {
            CHECK.due("begun(" + call[0] + ", " + call[1] + ")", x.begun(call[0], call[1]), LineOrigins.BAD);
        }
        LineOrigins full = Check.told("R:abcdefgh;R0:abcdefgh;");
        CHECK.due("begun of eight", full.begun(1, 0), 255);
    }

    private static void age() {
        LineOrigins x = Check.told("R:abcd;R0:xcdab;R1:yxcdab;R2:;");
        int[] due = {4, 5, 2, 3, 1, 0, NONE};
        for (int k = 0; k < due.length; k++) {
            CHECK.due("age(2, " + k + ")", x.age(2, k), due[k]);
        }
        CHECK.due("age(2, most)", x.age(2, Integer.MAX_VALUE), NONE);
        CHECK.due("age(3, 0), no LINES", x.age(3, 0), NONE);
        CHECK.due("age(2, -1)", x.age(2, -1), LineOrigins.BAD);
        CHECK.due("age(4, 0)", x.age(4, 0), LineOrigins.BAD);
        CHECK.due("age(-1, 0)", x.age(-1, 0), LineOrigins.BAD);
        // Two LINES of one ORIGIN, then by themselves.
        LineOrigins twice = Check.told("R:abqrs;R0:qrsabab;");
        int[] dueTwice = {3, 5, 4, 6, 0, 1, 2, NONE};
        for (int k = 0; k < dueTwice.length; k++) {
            CHECK.due("age(1, " + k + ") of copies", twice.age(1, k), dueTwice[k]);
        }
    }

    private static void like() {
        LineOrigins x = Check.told("R:abqrs;R0:qrsabab;R0:bq;");
        CHECK.due("like(0, 0, 1)", x.like(0, 0, 1), 8 + 32);
        CHECK.due("like(0, 1, 1)", x.like(0, 1, 1), 16 + 64);
        CHECK.due("like(0, 2, 1)", x.like(0, 2, 1), 1);
        CHECK.due("like(1, 4, 0)", x.like(1, 4, 0), 2);
        CHECK.due("like(1, 4, 2)", x.like(1, 4, 2), 1);
        CHECK.due("like(2, 0, 1)", x.like(2, 0, 1), 16 + 64);
        CHECK.due("like(0, 0, 2)", x.like(0, 0, 2), 0);
        CHECK.due("like(1, 3, 1), itself", x.like(1, 3, 1), 8 + 32);
        int[][] wrong = {{3, 0, 0}, {-1, 0, 0}, {0, 5, 0}, {0, -1, 0}, {0, 0, 3}, {0, 0, -1}, {2, 2, 1},
            {0, 0, Integer.MAX_VALUE}, {0, Integer.MIN_VALUE, 0}};
        for (int[] call : wrong) {
            CHECK.due("like(" + call[0] + ", " + call[1] + ", " + call[2] + ")", x.like(call[0], call[1], call[2]),
                    LineOrigins.BAD);
        }
    }

    private static void carried() {
        LineOrigins x = Check.told("R:ab;R0:axb;R0:aby;R1 2:axby;R:a;");
        CHECK.due("carried(0, 0)", x.carried(0, 0), 15);
        CHECK.due("carried(1, 1)", x.carried(1, 1), 2 + 8);
        CHECK.due("carried(2, 2)", x.carried(2, 2), 4 + 8);
        CHECK.due("carried(1, 0), no ORIGIN", x.carried(1, 0), 0);
        CHECK.due("carried(4, 0), its own alone", x.carried(4, 0), 16);
        int[][] wrong = {{5, 0}, {-1, 0}, {0, 2}, {0, -1}, {Integer.MAX_VALUE, 0}, {0, Integer.MIN_VALUE}};
        for (int[] call : wrong) {
            CHECK.due("carried(" + call[0] + ", " + call[1] + ")", x.carried(call[0], call[1]), LineOrigins.BAD);
        }
    }

    private static void kept() {
        LineOrigins x = Check.told("R:abqrs;R0:qrsabab;R0:bqx;R2:x;");
        CHECK.due("kept(0, 1): each one once", x.kept(0, 1), 5);
        CHECK.due("kept(0, 2)", x.kept(0, 2), 2);
        CHECK.due("kept(2, 3)", x.kept(2, 3), 1);
        CHECK.due("kept(2, 0)", x.kept(2, 0), 0);
        CHECK.due("kept(1, 0): none is an ORIGIN", x.kept(1, 0), 0);
        CHECK.due("kept(1, 1)", x.kept(1, 1), 0);
        CHECK.due("kept(2, 2), itself", x.kept(2, 2), 1);
        int[][] wrong = {{4, 0}, {-1, 0}, {0, 4}, {0, -1}, {Integer.MAX_VALUE, 0}, {0, Integer.MIN_VALUE}};
        for (int[] call : wrong) {
            CHECK.due("kept(" + call[0] + ", " + call[1] + ")", x.kept(call[0], call[1]), LineOrigins.BAD);
        }
    }

    private static void common() {
        LineOrigins x = Check.told("R:abcd;R0:xabd;R0:cdab;R1 2:xcdb;R0:;R0:abcd;");
        int[][] due = {{NONE, NONE}, {3, NONE}, {2, NONE}, {2, 3}, {0, NONE}, {4, NONE}};
        for (int r = 0; r < due.length; r++) {
            CHECK.due("common(" + r + ", 0)", x.common(r, 0), due[r][0]);
            CHECK.due("common(" + r + ", 1)", x.common(r, 1), due[r][1]);
        }
        int[][] wrong = {{6, 0}, {-1, 0}, {0, 2}, {0, -1}, {3, 2}, {Integer.MAX_VALUE, 0}, {0, Integer.MIN_VALUE}};
        for (int[] call : wrong) {
            CHECK.due("common(" + call[0] + ", " + call[1] + ")", x.common(call[0], call[1]), LineOrigins.BAD);
        }
    }
}
