/** Promises 18 to 20: sees, forget, unseen. */
public final class SeenTest {
    private static final Check CHECK = new Check("SeenTest");

    public static void main(String[] args) {
        sees();
        forget();
        unseen();
        otherWayRound();
        asThingsAreNow();
        CHECK.end();
    }

    private static void sees() {
        LineOrigins x = Check.told("R:abc;R0:axc;");
        int[][] wrong = {{2, 0, 0, 0}, {-1, 0, 0, 0}, {0, 3, 0, 0}, {0, -1, 0, 0}, {0, 0, 2, 0}, {0, 0, -1, 0},
            {0, 0, 0, 2}, {0, 0, 0, -1}, {Integer.MAX_VALUE, 0, 0, 0}, {0, 0, Integer.MIN_VALUE, 0}};
        for (int[] call : wrong) {
            bad(x, call);
        }
        CHECK.due("BAD changes nothing", x.count(6), 0);
        for (int number = 1; number <= 6; number++) {
            CHECK.due("sees number " + number, x.sees(1, 1, 0, 1), number);
        }
        CHECK.due("count(6)", x.count(6), 6);
        CHECK.due("a seventh", x.sees(1, 1, 1, 1), LineOrigins.FULL);
        for (int[] call : wrong) {
            bad(x, call);
        }
        CHECK.due("FULL changes nothing", x.count(6), 6);
        CHECK.due("unseen() of six", x.unseen(), 2);
        CHECK.due("sees() is nothing to be UNDONE", x.undo(), LineOrigins.STATE);
    }

    private static void bad(LineOrigins x, int[] call) {
        CHECK.due("sees(" + call[0] + ", " + call[1] + ", " + call[2] + ", " + call[3] + ")",
                x.sees(call[0], call[1], call[2], call[3]), LineOrigins.BAD);
    }

    private static void forget() {
        LineOrigins x = Check.told("R:abc;R0:axc;");
        CHECK.due("forget() of nothing", x.forget(), 0);
        x.sees(1, 1, 0, 1);
        x.sees(1, 1, 1, 1);
        CHECK.due("both can't be", x.unseen(), 0);
        CHECK.due("forget()", x.forget(), 2);
        CHECK.due("count(6)", x.count(6), 0);
        CHECK.due("all can be", x.unseen(), 3);
        for (int i = 0; i < 6; i++) {
            x.sees(0, 0, 0, 1);
        }
        CHECK.due("forget() of six", x.forget(), 6);
        CHECK.due("room again", x.sees(0, 0, 0, 1), 1);
    }

    private static void unseen() {
        LineOrigins x = Check.told("R:abc;R0:axc;R1:ayc;R2:ayd;");
        CHECK.due("nothing SEEN: all", x.unseen(), 15);
        x.sees(3, 1, 2, 0);
        CHECK.due("y is not of 2: 2 is PASSED", x.unseen(), 4);
        x.sees(3, 1, 1, 1);
        CHECK.due("but of 1", x.unseen(), 4);
        x.sees(3, 1, 0, 1);
        CHECK.due("and of 0: none", x.unseen(), 0);
        x.forget();
        x.sees(3, 1, 2, 1);
        CHECK.due("y is of 2: any other", x.unseen(), 11);
        x.sees(3, 2, 3, 1);
        CHECK.due("d is of 3: not that", x.unseen(), 3);
        CHECK.due("nothing is changed", x.count(2), 0);
        CHECK.due("nor the traces", x.line(3, 1, 4), 2);
    }

    private static void otherWayRound() {
        LineOrigins x = Check.told("R:abc;R0:axc;R1:ayc;");
        x.passes(1);
        x.passes(2);
        CHECK.due("y is of 0 now", x.line(2, 1, 4), 0);
        x.sees(2, 1, 0, 0);
        CHECK.due("1 or 2 not PASSED any more", x.unseen(), 6);
        x.sees(2, 1, 1, 1);
        CHECK.due("1 not PASSED any more", x.unseen(), 2);
        CHECK.due("both are PASSED still", x.count(2), 6);
    }

    private static void asThingsAreNow() {
        LineOrigins x = Check.told("R:abc;R0:axc;R1:ayc;");
        x.sees(2, 1, 0, 1);
        CHECK.due("no single one", x.unseen(), 0);
        x.passes(1);
        CHECK.due("with 1 PASSED: 2", x.unseen(), 4);
        x.rules(3);
        CHECK.due("without the RULE: none", x.unseen(), 0);
        x.undo();
        x.undo();
        x.passes(2);
        CHECK.due("with 2 PASSED: 1", x.unseen(), 2);
        CHECK.due("SEEN stays", x.count(6), 1);
    }
}
