/**
 * Boundary cases of the term SORTING, and of promises 6 to 11, 20 and 21: cards that are taken,
 * moved, punched anew, marked and sorted.
 */
public final class DeckEdgesTest {
    private static final int BAD = CardTabulator.BAD, NONE = CardTabulator.NONE;
    private static final int[] ODD = {-1, NONE, BAD, Integer.MIN_VALUE, Integer.MAX_VALUE};
    private static final Check CHECK = new Check();

    public static void main(String[] args) {
        takeFirstAndLast();
        takeOfNone();
        takeOfFullDeck();
        everyMove();
        moveOfNone();
        moveOfOne();
        moveOfFullDeck();
        repunchAnswers();
        repunchAsks();
        markAnswers();
        markAsks();
        passOfAllDigits();
        passKeepsEqualCards();
        passOfFewCards();
        passAsks();
        sortFromLastToFirst();
        sortByItsColumnsAlone();
        sortCountsOnce();
        sortIsOneChange();
        sortOfLaidFields();
        sortOfFullDeck();
        columnAsks();
        cardAsks();
        cardAsPunched();
        CHECK.end("DeckEdgesTest");
    }

    private static CardTabulator workers(int most) {
        CardTabulator x = new CardTabulator();
        for (int i = 1; i <= most; i++) {
            Check.punchAll(x, "w" + i);
        }
        return x;
    }

    private static CardTabulator fullDeck() {
        CardTabulator x = new CardTabulator();
        Check.type(x, "w0");
        for (int i = 0; i < 40; i++) {
            x.punch(i);
        }
        for (int i = 0; i < 40; i++) {
            x.repunch(i, 5, i / 10);
            x.repunch(i, 6, i % 10);
        }
        return x;
    }

    // ---- Promise 6

    private static void takeFirstAndLast() {
        CHECK.under("Promise 6: the first and the last card can be taken, none beyond");
        CardTabulator x = workers(4);
        CHECK.due("take(-1)", x.take(-1), BAD);
        CHECK.due("take(4)", x.take(4), BAD);
        CHECK.due("take(3)", x.take(3), 3);
        CHECK.dueWorkers("take(3)", x, "1 2 3");
        CHECK.due("take(3) again", x.take(3), BAD);
        CHECK.due("take(0)", x.take(0), 2);
        CHECK.dueWorkers("take(0)", x, "2 3");
        CHECK.due("take(0)", x.take(0), 1);
        CHECK.due("take(0) of the only card", x.take(0), 0);
        CHECK.due("told(0)", x.told(0), 0);
    }

    private static void takeOfNone() {
        CHECK.under("Promise 6: BAD if there is no such card");
        CardTabulator x = new CardTabulator();
        CHECK.due("take(0) of no cards", x.take(0), BAD);
        for (int card : ODD) {
            CHECK.due("take(" + card + ")", x.take(card), BAD);
        }
        CHECK.due("told(6)", x.told(6), 0);
    }

    private static void takeOfFullDeck() {
        CHECK.under("Promise 6: of 40 cards");
        CardTabulator x = fullDeck();
        CHECK.due("take(40)", x.take(40), BAD);
        CHECK.due("take(39)", x.take(39), 39);
        CHECK.due("take(0)", x.take(0), 38);
        CHECK.due("card(0, 2)", x.card(0, 2), 1);
        CHECK.due("card(37, 2)", x.card(37, 2), 38);
        CHECK.due("card(38, 2)", x.card(38, 2), BAD);
        Check.type(x, "w99");
        CHECK.due("punch(38)", x.punch(38), 39);
        CHECK.due("punch(39)", x.punch(39), 40);
        CHECK.due("take(0) of 40 again", x.take(0), 39);
        Check.type(x, "w77");
        CHECK.due("punch(39)", x.punch(39), 40);
        CHECK.due("card(37, 2)", x.card(37, 2), 99);
        CHECK.due("card(38, 2)", x.card(38, 2), 99);
        CHECK.due("card(39, 2)", x.card(39, 2), 77);
    }

    // ---- Promise 7

    private static String moved(int cards, int card, int to) {
        StringBuilder told = new StringBuilder();
        java.util.List<Integer> deck = new java.util.ArrayList<>();
        for (int i = 1; i <= cards; i++) {
            deck.add(i);
        }
        deck.add(to, deck.remove(card));
        for (int worker : deck) {
            told.append(told.length() == 0 ? "" : " ").append(worker);
        }
        return told.toString();
    }

    private static void everyMove() {
        CHECK.under("Promise 7: taken out, and put in again so that it has the new number");
        for (int card = 0; card < 4; card++) {
            for (int to = 0; to < 4; to++) {
                CardTabulator x = workers(4);
                String call = "move(" + card + ", " + to + ")";
                CHECK.due(call, x.move(card, to), card == to ? 0 : Math.abs(card - to) + 1);
                CHECK.dueWorkers(call, x, moved(4, card, to));
                CHECK.due("told(6) behind " + call, x.told(6), 5);
            }
        }
    }

    private static void moveOfNone() {
        CHECK.under("Promise 7: BAD if there is no such card or number");
        CardTabulator empty = new CardTabulator();
        CHECK.due("move(0, 0) of no cards", empty.move(0, 0), BAD);
        CardTabulator x = workers(3);
        CHECK.due("move(0, 3)", x.move(0, 3), BAD);
        CHECK.due("move(3, 0)", x.move(3, 0), BAD);
        CHECK.due("move(3, 3)", x.move(3, 3), BAD);
        for (int odd : ODD) {
            CHECK.due("move(0, " + odd + ")", x.move(0, odd), BAD);
            CHECK.due("move(" + odd + ", 0)", x.move(odd, 0), BAD);
            CHECK.due("move(" + odd + ", " + odd + ")", x.move(odd, odd), BAD);
        }
        CHECK.dueWorkers("wrong moves", x, "1 2 3");
    }

    private static void moveOfOne() {
        CHECK.under("Promise 7: returns 0 if no card has another number");
        CardTabulator x = workers(1);
        CHECK.due("move(0, 0)", x.move(0, 0), 0);
        CHECK.due("told(6): it is a change", x.told(6), 2);
    }

    private static void moveOfFullDeck() {
        CHECK.under("Promise 7: of 40 cards");
        CardTabulator x = fullDeck();
        CHECK.due("move(0, 40)", x.move(0, 40), BAD);
        CHECK.due("move(0, 39)", x.move(0, 39), 40);
        CHECK.due("card(39, 2)", x.card(39, 2), 0);
        CHECK.due("card(0, 2)", x.card(0, 2), 1);
        CHECK.due("card(38, 2)", x.card(38, 2), 39);
        CHECK.due("move(39, 0)", x.move(39, 0), 40);
        CHECK.due("card(0, 2) again", x.card(0, 2), 0);
        CHECK.due("card(39, 2) again", x.card(39, 2), 39);
        CHECK.due("told(0)", x.told(0), 40);
    }

    // ---- Promise 8

    private static void repunchAnswers() {
        CHECK.under("Promise 8: returns what the column was; the check digit stays");
        CardTabulator x = Check.deckOf("d1 g2 w3 h450 r250");
        CHECK.due("repunch(0, 0, 9)", x.repunch(0, 0, 9), 0);
        CHECK.due("repunch(0, 0, NONE)", x.repunch(0, 0, NONE), 9);
        CHECK.due("repunch(0, 0, NONE) of a blank", x.repunch(0, 0, NONE), NONE);
        CHECK.due("repunch(0, 0, 0)", x.repunch(0, 0, 0), NONE);
        CHECK.due("repunch(0, 23, 9)", x.repunch(0, 23, 9), NONE);
        CHECK.due("repunch(0, 23, 9) as it is", x.repunch(0, 23, 9), 9);
        CHECK.due("repunch(0, 1, 8)", x.repunch(0, 1, 8), 1);
        CHECK.dueColumns("repunch", x, 0, "080200345002506________9");
        CHECK.due("card(0, 6)", x.card(0, 6), 3);
        CHECK.due("repunch(0, 14, 3) of the check by hand", x.repunch(0, 14, 3), 6);
        CHECK.due("card(0, 9)", x.card(0, 9), 0);
    }

    private static void repunchAsks() {
        CHECK.under("Promise 8: BAD if there is no such card or column, or no such digit");
        CardTabulator x = workers(2);
        int[][] wrong = {{-1, 0, 0}, {2, 0, 0}, {0, -1, 0}, {0, 24, 0}, {0, 0, -1}, {0, 0, 10},
            {2, 24, 10}, {0, 24, NONE}, {2, 0, NONE}};
        for (int[] a : wrong) {
            CHECK.due("repunch(" + a[0] + ", " + a[1] + ", " + a[2] + ")",
                x.repunch(a[0], a[1], a[2]), BAD);
        }
        for (int odd : ODD) {
            CHECK.due("repunch(" + odd + ", 0, 0)", x.repunch(odd, 0, 0), BAD);
            CHECK.due("repunch(0, " + odd + ", 0)", x.repunch(0, odd, 0), BAD);
            CHECK.due("repunch(0, 0, " + odd + ")", x.repunch(0, 0, odd), odd == NONE ? NONE : BAD);
        }
        CHECK.due("repunch(1, 0, 0) of the last card", x.repunch(1, 0, 0), NONE);
        CHECK.dueColumns("repunch of the other card", x, 0, "____001_______3");
        CHECK.due("repunch(0, 0, 0) of no cards", new CardTabulator().repunch(0, 0, 0), BAD);
    }

    // ---- Promise 9

    private static void markAnswers() {
        CHECK.under("Promise 9: returns the mark that it had; the column is also told if it is not torn");
        CardTabulator x = workers(2);
        int had = 0;
        int[] marks = {3, 2, 1, 0, 0, 1, 2, 3, 3};
        for (int i = 0; i < marks.length; i++) {
            CHECK.due("mark(1, " + marks[i] + ", " + (23 - i) + ")", x.mark(1, marks[i], 23 - i), had);
            had = marks[i];
            CHECK.due("card(1, 7)", x.card(1, 7), had);
            CHECK.due("card(1, 8)", x.card(1, 8), 23 - i);
        }
        CHECK.due("mark(1, 3, 0)", x.mark(1, 3, 0), 3);
        CHECK.due("card(1, 8) of the first column", x.card(1, 8), 0);
        CHECK.due("card(0, 7) of the other card", x.card(0, 7), 0);
        CHECK.due("card(0, 8) of the other card", x.card(0, 8), 0);
        CHECK.dueColumns("mark: the card stays as it is punched", x, 1, "____002_______6");
    }

    private static void markAsks() {
        CHECK.under("Promise 9: BAD if there is no such card or column, or mark is out of range");
        CardTabulator x = workers(2);
        int[][] wrong = {{-1, 0, 0}, {2, 0, 0}, {0, -1, 0}, {0, 4, 0}, {0, 0, -1}, {0, 0, 24},
            {0, 1, 24}, {0, 2, -1}, {0, 3, 24}};
        for (int[] a : wrong) {
            CHECK.due("mark(" + a[0] + ", " + a[1] + ", " + a[2] + ")", x.mark(a[0], a[1], a[2]), BAD);
        }
        for (int odd : ODD) {
            CHECK.due("mark(" + odd + ", 0, 0)", x.mark(odd, 0, 0), BAD);
            CHECK.due("mark(0, " + odd + ", 0)", x.mark(0, odd, 0), BAD);
            CHECK.due("mark(0, 0, " + odd + ")", x.mark(0, 0, odd), BAD);
        }
        CHECK.due("card(0, 7) behind them", x.card(0, 7), 0);
        CHECK.due("mark(0, 0, 0) of no cards", new CardTabulator().mark(0, 0, 0), BAD);
    }

    // ---- SORTING, Promise 10

    /** The card with the worker i shows the digit i - 1, the one with the worker 0 a blank. */
    private static CardTabulator elevenCards(int column, int... workers) {
        CardTabulator x = new CardTabulator();
        for (int worker : workers) {
            Check.punchAll(x, "w" + worker);
            x.repunch(x.told(0) - 1, column, worker == 0 ? NONE : worker - 1);
        }
        return x;
    }

    private static void passOfAllDigits() {
        CHECK.under("SORTING: blanks come first, then 0, and so on up to 9");
        for (int column : new int[] {15, 23}) {
            CardTabulator x = elevenCards(column, 10, 9, 8, 7, 6, 5, 4, 3, 2, 1, 0);
            CHECK.due("pass(" + column + ")", x.pass(column), 10);
            CHECK.dueWorkers("pass", x, "0 1 2 3 4 5 6 7 8 9 10");
            CHECK.due("pass(" + column + ") of sorted cards", x.pass(column), 0);
        }
        for (int i = 0; i < 10; i++) {
            CardTabulator x = elevenCards(20, i + 1, i);
            CHECK.due("pass(20) of two", x.pass(20), 2);
            CHECK.dueWorkers("pass(20)", x, i + " " + (i + 1));
        }
        CardTabulator x = Check.deckOf("d90 w1", "d10 w2");
        CHECK.due("pass(0) by the first column", x.pass(0), 2);
        CHECK.dueWorkers("pass(0)", x, "2 1");
    }

    private static void passKeepsEqualCards() {
        CHECK.under("SORTING: cards with the same stay in their order");
        CardTabulator x = Check.deckOf("w31", "w21", "w11", "w30", "w20", "w10");
        CHECK.due("pass(6)", x.pass(6), 6);
        CHECK.dueWorkers("pass(6)", x, "30 20 10 31 21 11");
        CHECK.due("pass(4) of equal cards", x.pass(4), 0);
        CHECK.due("pass(23) of blanks", x.pass(23), 0);
        x.repunch(0, 23, 0);
        CHECK.due("pass(23) of blanks and a 0", x.pass(23), 6);
        CHECK.dueWorkers("pass(23)", x, "20 10 31 21 11 30");
    }

    private static void passOfFewCards() {
        CHECK.under("Promise 10: of no card and of one card it is a change too");
        CardTabulator x = new CardTabulator();
        CHECK.due("pass(0) of no cards", x.pass(0), 0);
        CHECK.due("told(6)", x.told(6), 1);
        CHECK.due("sort(0) of no cards", x.sort(0), 0);
        CHECK.due("told(6)", x.told(6), 2);
        Check.punchAll(x, "w1");
        CHECK.due("pass(0) of one card", x.pass(0), 0);
        CHECK.due("sort(2) of one card", x.sort(2), 0);
        CHECK.due("told(6)", x.told(6), 5);
    }

    private static void passAsks() {
        CHECK.under("Promise 10: BAD if there is no such column");
        CardTabulator x = Check.deckOf("w2", "w1");
        CHECK.due("pass(24)", x.pass(24), BAD);
        for (int odd : ODD) {
            CHECK.due("pass(" + odd + ")", x.pass(odd), BAD);
        }
        CHECK.due("told(6)", x.told(6), 2);
        CHECK.due("pass(23)", x.pass(23), 0);
        CHECK.due("pass(0)", x.pass(0), 0);
    }

    // ---- Promise 11

    private static void sortFromLastToFirst() {
        CHECK.under("Promise 11: passes by its columns, from its last one to its first one");
        CardTabulator x = Check.deckOf("w211", "w121", "w112", "w111", "w222", "w122");
        CHECK.due("sort(2)", x.sort(2), 6);
        CHECK.dueWorkers("sort(2)", x, "111 112 121 122 211 222");
        CardTabulator y = Check.deckOf("w3 r9000", "w2 r1000", "w1 r0001");
        CHECK.due("sort(4)", y.sort(4), 2);
        CHECK.dueWorkers("sort(4)", y, "1 2 3");
        CardTabulator z = Check.deckOf("w3 d90", "w2 d10", "w1 d09", "w4");
        CHECK.due("sort(0) with a blank", z.sort(0), 4);
        CHECK.dueWorkers("sort(0) with a blank", z, "4 1 2 3");
    }

    private static void sortByItsColumnsAlone() {
        CHECK.under("Promise 11: by its columns, and by none before or behind them");
        String[] texts = {"d22 g22 w222 h222 r2222", "d11 g11 w111 h111 r1111"};
        int[] firsts = {0, 2, 4, 7, 10, 14};
        int[] widths = {2, 2, 3, 3, 4, 1};
        for (int field = 0; field < 6; field++) {
            CardTabulator x = Check.deckOf(texts);
            for (int i = 0; i < widths[field]; i++) {
                x.repunch(0, firsts[field] + i, 3);
                x.repunch(1, firsts[field] + i, 3);
            }
            x.repunch(0, 15, 2);
            x.repunch(1, 15, 1);
            CHECK.due("sort(" + field + ") of equal values", x.sort(field), 0);
        }
    }

    private static void sortCountsOnce() {
        CHECK.under("Promise 11: counts the cards that have another number behind all its passes");
        CardTabulator x = Check.deckOf("w12", "w21");
        CHECK.due("sort(2) whose passes undo one another", x.sort(2), 0);
        CHECK.dueWorkers("sort(2)", x, "12 21");
        CardTabulator y = Check.deckOf("w22", "w21", "w12");
        CHECK.due("sort(2) of three", y.sort(2), 2);
        CHECK.dueWorkers("sort(2)", y, "12 21 22");
    }

    private static void sortIsOneChange() {
        CHECK.under("Promise 11: this is one change");
        CardTabulator x = Check.deckOf("w321", "w213", "w132");
        CHECK.due("sort(2)", x.sort(2), 2);
        CHECK.due("told(6)", x.told(6), 4);
        CHECK.due("undo()", x.undo(), 3);
        CHECK.dueWorkers("undo()", x, "321 213 132");
    }

    private static void sortOfLaidFields() {
        CHECK.under("Promise 11: by the columns that the field has now");
        CardTabulator x = Check.deckOf("w321", "w213", "w132");
        x.lay(0, 6, 1);
        CHECK.due("sort(0)", x.sort(0), 2);
        CHECK.dueWorkers("sort(0) by column 6", x, "321 132 213");
        x.lay(0, 5, 1);
        CHECK.due("sort(0)", x.sort(0), 3);
        CHECK.dueWorkers("sort(0) by column 5", x, "213 321 132");
        x.lay(5, 4, 1);
        CHECK.due("sort(5)", x.sort(5), 3);
        CHECK.dueWorkers("sort(5) by column 4", x, "132 213 321");
        x.lay(1, 20, 4);
        CHECK.due("sort(1) by blanks up to the last column", x.sort(1), 0);
        x.repunch(0, 23, 1);
        CHECK.due("sort(1) by the last column", x.sort(1), 3);
        CHECK.dueWorkers("sort(1)", x, "213 321 132");
    }

    private static void sortOfFullDeck() {
        CHECK.under("Promise 11: of 40 cards");
        CardTabulator x = fullDeck();
        for (int i = 0; i < 40; i++) {
            x.repunch(i, 5, (39 - i) / 10);
            x.repunch(i, 6, (39 - i) % 10);
        }
        CHECK.due("sort(2)", x.sort(2), 40);
        for (int i = 0; i < 40; i++) {
            CHECK.due("card(" + i + ", 2)", x.card(i, 2), i);
        }
        CHECK.due("told(0)", x.told(0), 40);
    }

    // ---- Promises 20 and 21

    private static void columnAsks() {
        CHECK.under("Promise 20: BAD if there is no such card or column, NONE if it is blank");
        CardTabulator x = workers(2);
        int[][] wrong = {{-1, 0}, {2, 0}, {0, -1}, {0, 24}, {1, 24}, {2, 24}, {-1, -1}};
        for (int[] a : wrong) {
            CHECK.due("column(" + a[0] + ", " + a[1] + ")", x.column(a[0], a[1]), BAD);
        }
        for (int odd : ODD) {
            CHECK.due("column(" + odd + ", 0)", x.column(odd, 0), BAD);
            CHECK.due("column(0, " + odd + ")", x.column(0, odd), BAD);
        }
        CHECK.due("column(0, 0)", x.column(0, 0), NONE);
        CHECK.due("column(1, 23)", x.column(1, 23), NONE);
        CHECK.due("column(1, 6)", x.column(1, 6), 2);
        CHECK.due("column(1, 4)", x.column(1, 4), 0);
        x.take(1);
        CHECK.due("column(1, 6) behind take", x.column(1, 6), BAD);
        CHECK.due("column(0, 0) of no cards", new CardTabulator().column(0, 0), BAD);
    }

    private static void cardAsks() {
        CHECK.under("Promise 21: BAD if there is no such card or what is out of range");
        CardTabulator x = workers(2);
        int[][] wrong = {{-1, 0}, {2, 0}, {0, -1}, {0, 10}, {1, 10}, {2, 9}, {-1, 9}};
        for (int[] a : wrong) {
            CHECK.due("card(" + a[0] + ", " + a[1] + ")", x.card(a[0], a[1]), BAD);
        }
        for (int odd : ODD) {
            CHECK.due("card(" + odd + ", 0)", x.card(odd, 0), BAD);
            CHECK.due("card(0, " + odd + ")", x.card(0, odd), BAD);
        }
        CHECK.due("card(1, 0)", x.card(1, 0), NONE);
        CHECK.due("card(1, 9)", x.card(1, 9), 2);
        x.take(1);
        CHECK.due("card(1, 7) behind take", x.card(1, 7), BAD);
        CHECK.due("card(0, 0) of no cards", new CardTabulator().card(0, 0), BAD);
    }

    private static void cardAsPunched() {
        CHECK.under("CARDS AND FIELDS, Promises 20 and 21: what the columns show, not what is read of a marked card");
        // 4 + 4 + 7 + 7 + 8 = 30.
        int[] due = {11, 11, 111, 111, 1111, 0, 0};
        for (int mark = 1; mark <= 3; mark++) {
            CardTabulator x = Check.deckOf("d11 g11 w111 h111 r1111");
            for (int column = 0; column < 15; column++) {
                x.mark(0, mark, column);
                for (int what = 0; what < 7; what++) {
                    CHECK.due("card(0, " + what + ") with the mark " + mark + " and column " + column,
                        x.card(0, what), due[what]);
                }
                CHECK.due("column(0, " + column + ") with the mark " + mark, x.column(0, column),
                    column == 14 ? 0 : 1);
            }
        }
    }
}
