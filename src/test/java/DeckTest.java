/** Promises 6 to 11, 20 and 21: take, move, repunch, mark, pass, sort, column, card. */
public final class DeckTest {
    private static final int BAD = CardTabulator.BAD, NONE = CardTabulator.NONE;
    private static final Check CHECK = new Check();

    public static void main(String[] args) {
        take();
        move();
        repunch();
        mark();
        pass();
        passOfBlanks();
        sort();
        columnsAndValues();
        reasonsNow();
        shiftedAndTorn();
        CHECK.end("DeckTest");
    }

    private static void take() {
        CardTabulator x = Check.deckOf("w1", "w2", "w3", "w4");
        CHECK.due("take(4)", x.take(4), BAD);
        CHECK.due("take(-1)", x.take(-1), BAD);
        CHECK.due("told(6)", x.told(6), 4);
        CHECK.due("take(1)", x.take(1), 3);
        CHECK.dueWorkers("take(1)", x, "1 3 4");
        CHECK.due("take(2)", x.take(2), 2);
        CHECK.due("take(0)", x.take(0), 1);
        CHECK.dueWorkers("takes", x, "3");
        CHECK.due("take(0)", x.take(0), 0);
        CHECK.due("take(0) of none", x.take(0), BAD);
        CHECK.due("told(6) behind takes", x.told(6), 8);
    }

    private static void move() {
        CardTabulator x = Check.deckOf("w1", "w2", "w3", "w4", "w5");
        CHECK.due("move(1, 3)", x.move(1, 3), 3);
        CHECK.dueWorkers("move(1, 3)", x, "1 3 4 2 5");
        CHECK.due("move(4, 0)", x.move(4, 0), 5);
        CHECK.dueWorkers("move(4, 0)", x, "5 1 3 4 2");
        CHECK.due("move(2, 2)", x.move(2, 2), 0);
        CHECK.due("told(6) behind three moves", x.told(6), 8);
        CHECK.due("move(0, 1)", x.move(0, 1), 2);
        CHECK.dueWorkers("move(0, 1)", x, "1 5 3 4 2");
        int[][] wrong = {{5, 0}, {0, 5}, {-1, 0}, {0, -1}, {5, 5}};
        for (int[] a : wrong) {
            CHECK.due("move(" + a[0] + ", " + a[1] + ")", x.move(a[0], a[1]), BAD);
        }
        CHECK.dueWorkers("wrong moves", x, "1 5 3 4 2");
    }

    private static void repunch() {
        CardTabulator x = Check.deckOf("d1 g2 w3 h450 r250");
        CHECK.due("repunch(0, 6, 9)", x.repunch(0, 6, 9), 3);
        CHECK.due("card(0, 2)", x.card(0, 2), 9);
        CHECK.due("check digit stays", x.card(0, 5), 6);
        CHECK.due("check digit due then", x.card(0, 6), 4);
        CHECK.due("repunch(0, 6, NONE)", x.repunch(0, 6, NONE), 9);
        CHECK.due("card(0, 2) with a blank", x.card(0, 2), NONE);
        CHECK.due("repunch(0, 6, 0)", x.repunch(0, 6, 0), NONE);
        CHECK.due("repunch(0, 23, 7)", x.repunch(0, 23, 7), NONE);
        CHECK.due("column(0, 23)", x.column(0, 23), 7);
        int[][] wrong = {{1, 0, 0}, {-1, 0, 0}, {0, 24, 0}, {0, -1, 0}, {0, 0, 10}, {0, 0, -1},
            {0, 0, BAD}, {0, 0, Integer.MIN_VALUE}};
        for (int[] a : wrong) {
            CHECK.due("repunch(" + a[0] + ", " + a[1] + ", " + a[2] + ")",
                x.repunch(a[0], a[1], a[2]), BAD);
        }
        CHECK.due("told(6)", x.told(6), 5);
        CHECK.due("column(0, 0)", x.column(0, 0), 0);
    }

    private static void mark() {
        CardTabulator x = Check.deckOf("w1", "w2");
        CHECK.due("mark(1, 3, 23)", x.mark(1, 3, 23), 0);
        CHECK.due("card(1, 7)", x.card(1, 7), 3);
        CHECK.due("card(1, 8)", x.card(1, 8), 23);
        CHECK.due("mark(1, 0, 5)", x.mark(1, 0, 5), 3);
        CHECK.due("card(1, 8) that is not torn", x.card(1, 8), 5);
        CHECK.due("mark(1, 2, 0)", x.mark(1, 2, 0), 0);
        CHECK.due("mark(1, 1, 0)", x.mark(1, 1, 0), 2);
        CHECK.due("card(0, 7)", x.card(0, 7), 0);
        int[][] wrong = {{2, 0, 0}, {-1, 0, 0}, {0, 4, 0}, {0, -1, 0}, {0, 0, 24}, {0, 0, -1},
            {0, 1, NONE}};
        for (int[] a : wrong) {
            CHECK.due("mark(" + a[0] + ", " + a[1] + ", " + a[2] + ")", x.mark(a[0], a[1], a[2]), BAD);
        }
        CHECK.due("told(6)", x.told(6), 6);
        x.move(1, 0);
        CHECK.due("the mark goes with its card", x.card(0, 7), 1);
    }

    private static void pass() {
        CardTabulator x = Check.deckOf("w31", "w12", "w22", "w11");
        CHECK.due("pass(6)", x.pass(6), 3);
        CHECK.dueWorkers("pass(6)", x, "31 11 12 22");
        CHECK.due("pass(5)", x.pass(5), 4);
        CHECK.dueWorkers("pass(5)", x, "11 12 22 31");
        CHECK.due("pass(5) again", x.pass(5), 0);
        CHECK.due("pass(23)", x.pass(23), 0);
        CHECK.due("pass(0)", x.pass(0), 0);
        CHECK.due("told(6)", x.told(6), 8);
        CHECK.due("pass(24)", x.pass(24), BAD);
        CHECK.due("pass(-1)", x.pass(-1), BAD);
        CardTabulator empty = new CardTabulator();
        CHECK.due("pass(0) of no cards", empty.pass(0), 0);
        CHECK.due("told(6) of no cards", empty.told(6), 1);
    }

    private static void passOfBlanks() {
        CardTabulator x = Check.deckOf("w9", "w0", "w5", "w1");
        x.repunch(2, 20, 0);
        x.repunch(0, 20, 9);
        CHECK.due("pass(20)", x.pass(20), 3);
        // Blanks come first and stay in their order, then 0, then 9.
        CHECK.dueWorkers("pass(20)", x, "0 1 5 9");
        x.repunch(1, 6, NONE);
        CHECK.due("pass(6)", x.pass(6), 2);
        CHECK.due("column(0, 6)", x.column(0, 6), NONE);
        CHECK.due("column(1, 6)", x.column(1, 6), 0);
    }

    private static void sort() {
        CardTabulator x = Check.deckOf("w31", "w12", "w22", "w11");
        CHECK.due("sort(2)", x.sort(2), 2);
        CHECK.dueWorkers("sort(2)", x, "11 12 22 31");
        CHECK.due("told(6): one change", x.told(6), 5);
        CHECK.due("undo()", x.undo(), 4);
        CHECK.dueWorkers("undo()", x, "31 12 22 11");
        CHECK.due("sort(5)", x.sort(5), 4);
        // The check digits: 31 has 6, 12 has 7, 22 has 8, 11 has 4.
        CHECK.dueWorkers("sort(5)", x, "11 31 12 22");
        CHECK.due("sort(0)", x.sort(0), 0);
        CHECK.due("sort(6)", x.sort(6), BAD);
        CHECK.due("sort(-1)", x.sort(-1), BAD);
        CHECK.due("told(6)", x.told(6), 6);
        CardTabulator y = Check.deckOf("w3 h100 r9999", "w1 h20 r1000", "w2 h3 r9998", "w4 h3 r1");
        CHECK.due("sort(3)", y.sort(3), 4);
        CHECK.dueWorkers("sort(3)", y, "2 4 1 3");
        CHECK.due("sort(4)", y.sort(4), 3);
        CHECK.dueWorkers("sort(4)", y, "4 1 2 3");
    }

    private static void columnsAndValues() {
        CardTabulator x = Check.deckOf("d1 g2 w3 h450 r250", "g12");
        int[] values = {1, 2, 3, 450, 250, 6, 6, 0, 0, 0};
        for (int what = 0; what < values.length; what++) {
            CHECK.due("card(0, " + what + ")", x.card(0, what), values[what]);
        }
        int[] other = {NONE, 12, NONE, NONE, NONE, 5, 5, 0, 0, 2};
        for (int what = 0; what < other.length; what++) {
            CHECK.due("card(1, " + what + ")", x.card(1, what), other[what]);
        }
        int[][] wrong = {{2, 0}, {-1, 0}, {0, 10}, {0, -1}, {2, 10}};
        for (int[] a : wrong) {
            CHECK.due("card(" + a[0] + ", " + a[1] + ")", x.card(a[0], a[1]), BAD);
        }
        int[][] none = {{2, 0}, {-1, 0}, {0, 24}, {0, -1}};
        for (int[] a : none) {
            CHECK.due("column(" + a[0] + ", " + a[1] + ")", x.column(a[0], a[1]), BAD);
        }
        CHECK.due("column(0, 23)", x.column(0, 23), NONE);
        CHECK.due("column(0, 14)", x.column(0, 14), 6);
    }

    /** card(.., 9): the first reason that applies counts. */
    private static void reasonsNow() {
        CardTabulator x = Check.deckOf("d1 g2 w3 h999 r250");
        CHECK.due("well", x.card(0, 9), 0);
        x.set(2, 998);
        CHECK.due("too many hours", x.card(0, 9), 4);
        x.repunch(0, 14, NONE);
        CHECK.due("no check digit", x.card(0, 9), 3);
        x.repunch(0, 14, 5);
        CHECK.due("another check digit", x.card(0, 9), 3);
        x.repunch(0, 10, NONE);
        CHECK.due("no rate", x.card(0, 9), 2);
        x.mark(0, 1, 0);
        CHECK.due("skipped", x.card(0, 9), 1);
        x.mark(0, 0, 0);
        x.repunch(0, 10, 0);
        x.set(1, 0);
        CHECK.due("no checks are made", x.card(0, 9), 4);
        x.set(2, 999);
        CHECK.due("as many hours as may be", x.card(0, 9), 0);
        for (int column = 0; column < 14; column++) {
            int was = x.repunch(0, column, NONE);
            CHECK.due("blank in column " + column, x.card(0, 9), 2);
            x.repunch(0, column, was);
        }
    }

    private static void shiftedAndTorn() {
        CardTabulator x = new CardTabulator();
        int[] firsts = {0, 2, 4, 7, 10, 14};
        for (int field = 0; field < 6; field++) {
            x.lay(field, firsts[field] + 1, x.field(field, 1));
        }
        Check.punchAll(x, "d1 g2 w3 h450 r250");
        for (int field = 0; field < 6; field++) {
            x.lay(field, firsts[field], x.field(field, 1));
        }
        CHECK.due("fed well", x.card(0, 9), 2);
        x.mark(0, 2, 0);
        CHECK.due("shifted into place", x.card(0, 9), 0);
        CHECK.due("run()", x.run(), 1);
        CHECK.dueLine(x, 0, 0, 1, 2, 3, 1, 450, 11250, 0, 0);
        x.lay(5, 23, 1);
        x.repunch(0, 23, 6);
        CHECK.due("the last column is blank when shifted", x.card(0, 9), 3);
        CHECK.due("the card itself stays", x.column(0, 23), 6);

        CardTabulator y = Check.deckOf("d1 g2 w3 h450 r250");
        y.mark(0, 3, 20);
        CHECK.due("torn where no field is", y.card(0, 9), 0);
        y.mark(0, 3, 14);
        CHECK.due("torn in the check", y.card(0, 9), 3);
        y.set(1, 0);
        CHECK.due("torn in the check that is not made", y.card(0, 9), 0);
        y.mark(0, 3, 0);
        CHECK.due("torn in the department", y.card(0, 9), 2);
        CHECK.due("column(0, 0) of a torn card", y.column(0, 0), 0);
        CHECK.due("card(0, 0) of a torn card", y.card(0, 0), 1);
        y.mark(0, 0, 0);
        CHECK.due("a torn column of a card fed well", y.card(0, 9), 0);
    }
}
