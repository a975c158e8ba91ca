/** Promises 5 and 14 to 16: punch, write, wipe, fault. */
public final class TextTest {
    private static final int BAD = CardTabulator.BAD, STATE = CardTabulator.STATE;
    private static final int FULL = CardTabulator.FULL, NONE = CardTabulator.NONE;
    private static final Check CHECK = new Check();

    public static void main(String[] args) {
        writeAndWipe();
        faults();
        faultStays();
        textsThatAreWell();
        punchedColumns();
        sharedColumns();
        places();
        errorsOfPunch();
        CHECK.end("TextTest");
    }

    private static void writeAndWipe() {
        CardTabulator x = new CardTabulator();
        CHECK.due("write(31)", x.write(31), BAD);
        CHECK.due("write(127)", x.write(127), BAD);
        CHECK.due("write(-1)", x.write(-1), BAD);
        CHECK.due("write(32)", x.write(32), 1);
        CHECK.due("write(126)", x.write(126), 2);
        for (int i = 3; i <= 50; i++) {
            CHECK.due("write(48)", x.write(48), i);
        }
        CHECK.due("write(48) into a full text", x.write(48), FULL);
        CHECK.due("write(31) into a full text", x.write(31), BAD);
        CHECK.due("told(5)", x.told(5), 50);
        CHECK.due("told(6) behind writes", x.told(6), 0);
        CHECK.due("wipe()", x.wipe(), 50);
        CHECK.due("told(5) behind wipe()", x.told(5), 0);
        CHECK.due("wipe() again", x.wipe(), 0);
        CHECK.due("told(6) behind wipe()", x.told(6), 0);
        CHECK.due("fault(-1)", x.fault(-1), BAD);
        CHECK.due("fault(2)", x.fault(2), BAD);
    }

    private static void faults() {
        CardTabulator x = new CardTabulator();
        String[] wrongByte = {"x1", "1", "D1", "d ", "dd", "d/", "d:", "c1", "~"};
        int[] places = {0, 0, 0, 1, 1, 1, 1, 0, 0};
        for (int i = 0; i < wrongByte.length; i++) {
            CHECK.dueFault(x, wrongByte[i], 1, places[i]);
        }
        CHECK.dueFault(x, "d1d2", 1, 2);
        CHECK.dueFault(x, "d1g2", 1, 2);
        CHECK.dueFault(x, "h12.5", 1, 3);
        CHECK.dueFault(x, "d1 g2 w h1", 1, 7);
        CHECK.dueFault(x, "d1 x d1", 1, 3);
        CHECK.dueFault(x, "d1 d2", 2, 3);
        CHECK.dueFault(x, "d1 d", 2, 3);
        CHECK.dueFault(x, "r1 w2   r999999", 2, 8);
        CHECK.dueFault(x, "d0 d0", 2, 3);
        CHECK.dueFault(x, "d123", 3, 3);
        CHECK.dueFault(x, "g000", 3, 3);
        CHECK.dueFault(x, "w0001", 3, 4);
        CHECK.dueFault(x, "h9999 d d", 3, 4);
        CHECK.dueFault(x, "r123456", 3, 5);
        CHECK.dueFault(x, "", 4, 0);
        CHECK.dueFault(x, "   ", 4, 3);
        CHECK.dueFault(x, "d", 4, 1);
        CHECK.dueFault(x, "d1 g", 4, 4);
        CHECK.due("told(0) behind faults", x.told(0), 0);
        CHECK.due("told(6) behind faults", x.told(6), 0);
        x.lay(0, 0, 1);
        CHECK.dueFault(x, "d12", 3, 2);
        x.lay(0, 0, 4);
        CHECK.dueFault(x, "d12345", 3, 5);
    }

    private static void faultStays() {
        CardTabulator x = new CardTabulator();
        CHECK.dueFault(x, "d1 d1", 2, 3);
        Check.type(x, "d1");
        CHECK.due("punch(0)", x.punch(0), 1);
        CHECK.due("fault(0) behind a good punch", x.fault(0), 2);
        Check.type(x, "?");
        CHECK.due("punch(2)", x.punch(2), BAD);
        CHECK.due("undo()", x.undo(), 0);
        CHECK.due("undo() of nothing", x.undo(), STATE);
        CHECK.due("fault(0) behind other calls", x.fault(0), 2);
        CHECK.due("fault(1) behind other calls", x.fault(1), 3);
    }

    private static void textsThatAreWell() {
        String[] well = {"d1", "  d1", "d1  ", " g2    d1 ", "r9999", "w000 h0 r0", "h1 w2 g3 d4 r5"};
        for (String text : well) {
            CardTabulator x = new CardTabulator();
            Check.type(x, text);
            CHECK.due("punch(0) of '" + text + "'", x.punch(0), 1);
            CHECK.due("told(5) of '" + text + "'", x.told(5), text.length());
        }
    }

    private static void dueColumns(CardTabulator x, int card, String want) {
        CHECK.dueColumns("punch", x, card, want);
    }

    private static void punchedColumns() {
        dueColumns(Check.deckOf("d1 g2 w3 h450 r250"), 0, "010200345002506");
        dueColumns(Check.deckOf("r250 h450 w3 g2 d1"), 0, "010200345002506");
        // 3 * (9 + 9 + 9 + 9 + 9) + (9 + 9 + 9) = 162
        dueColumns(Check.deckOf("w9 h999 r9999"), 0, "____00999999992");
        dueColumns(Check.deckOf("d0"), 0, "00____________0");
        CardTabulator x = new CardTabulator();
        x.lay(3, 20, 4);
        x.lay(5, 6, 1);
        Check.punchAll(x, "h12");
        // 3 * (0 + 1) + (0 + 2) = 5
        dueColumns(x, 0, "______5_____________0012");
    }

    private static void sharedColumns() {
        CardTabulator x = new CardTabulator();
        x.lay(1, 0, 2);
        Check.punchAll(x, "d12 g34");
        // Both fields show 34: 3 * (3 + 3) + (4 + 4) = 26
        dueColumns(x, 0, "34____________6");
        Check.punchAll(x, "g34 d12");
        dueColumns(x, 1, "34____________6");

        CardTabulator y = new CardTabulator();
        y.lay(0, 7, 2);
        Check.punchAll(y, "h12");
        // 012 as hours, 01 as department: 3 * (0 + 2 + 0) + (1 + 1) = 8
        dueColumns(y, 0, "_______012____8");
        CHECK.due("card(0, 0) that is shared", y.card(0, 0), 1);

        CardTabulator z = new CardTabulator();
        z.lay(5, 0, 1);
        Check.punchAll(z, "d12");
        // 3 * 1 + 2 = 5 is due when it is punched, and replaces the 1: 3 * 5 + 2 = 17.
        dueColumns(z, 0, "52");
        CHECK.due("card(0, 5) in a shared column", z.card(0, 5), 5);
        CHECK.due("card(0, 6) in a shared column", z.card(0, 6), 7);
    }

    private static void places() {
        CardTabulator x = Check.deckOf("w1", "w2");
        Check.type(x, "w3");
        CHECK.due("punch(0)", x.punch(0), 3);
        CHECK.dueWorkers("punch(0)", x, "3 1 2");
        Check.type(x, "w4");
        CHECK.due("punch(2)", x.punch(2), 4);
        CHECK.dueWorkers("punch(2)", x, "3 1 4 2");
        CHECK.due("punch(4)", x.punch(4), 5);
        CHECK.dueWorkers("punch(4)", x, "3 1 4 2 4");
        x.mark(4, 3, 9);
        x.take(4);
        CHECK.due("punch(4) behind take", x.punch(4), 5);
        CHECK.due("mark of a new card", x.card(4, 7), 0);
        CHECK.due("torn column of a new card", x.card(4, 8), 0);
    }

    private static void errorsOfPunch() {
        CardTabulator x = new CardTabulator();
        Check.type(x, "w1");
        CHECK.due("punch(1) into an empty deck", x.punch(1), BAD);
        CHECK.due("punch(-1)", x.punch(-1), BAD);
        for (int i = 1; i <= 40; i++) {
            CHECK.due("punch(0)", x.punch(0), i);
        }
        CHECK.due("undo() behind 40 cards", x.undo(), 7);
        x.punch(40 - 1);
        CHECK.due("punch(0) of 40", x.punch(0), FULL);
        CHECK.due("punch(40) of 40", x.punch(40), FULL);
        CHECK.due("punch(41) of 40", x.punch(41), BAD);
        x.write('?');
        CHECK.due("punch(0) of 40 with a fault", x.punch(0), STATE);
        CHECK.due("fault(0)", x.fault(0), 1);
        CHECK.due("fault(1)", x.fault(1), 2);
        CHECK.due("punch(41) of 40 with a fault", x.punch(41), BAD);
        CHECK.due("told(0)", x.told(0), 40);
        CHECK.due("told(6)", x.told(6), 8);
    }
}
