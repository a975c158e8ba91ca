/**
 * Boundary cases of the term CARDS AND FIELDS, and of promises 1, 2 and 19: columns, fields, their
 * values, the check digit that is due, and how many cards there are.
 */
public final class FieldsEdgesTest {
    private static final int BAD = CardTabulator.BAD, STATE = CardTabulator.STATE;
    private static final int FULL = CardTabulator.FULL, NONE = CardTabulator.NONE;
    private static final int[] FIRSTS = {0, 2, 4, 7, 10, 14};
    private static final int[] WIDTHS = {2, 2, 3, 3, 4, 1};
    private static final Check CHECK = new Check();

    public static void main(String[] args) {
        newObject();
        sixFields();
        columnsOfACard();
        digitsOfAColumn();
        layReturnsTheFirstColumnBefore();
        widths();
        widthOfTheCheck();
        withinTheColumns();
        layThatWrapsAround();
        everyLay();
        fieldAsks();
        fieldsShareColumns();
        cardsStayAsTheyArePunched();
        valueOfBlanks();
        leastAndGreatestValues();
        placesInTheField();
        checkIsCountedFromTheFirstColumnOn();
        checkModuloTen();
        columnsOfSeveralFields();
        theCheckItselfDoesNotCount();
        blanksCountAsZero();
        fortyCards();
        numbersOfCards();
        marksAtFirst();
        CHECK.end("FieldsEdgesTest");
    }

    private static void newObject() {
        CHECK.under("Promise 1: an empty deck, text and report, no fault, no images, nothing to undo");
        CardTabulator x = new CardTabulator();
        CHECK.due("told(0)", x.told(0), 0);
        CHECK.due("told(1)", x.told(1), 0);
        CHECK.due("told(2)", x.told(2), NONE);
        CHECK.due("told(3)", x.told(3), 0);
        CHECK.due("told(5)", x.told(5), 0);
        CHECK.due("told(6)", x.told(6), 0);
        CHECK.due("fault(0)", x.fault(0), NONE);
        CHECK.due("fault(1)", x.fault(1), NONE);
        CHECK.due("back(0)", x.back(0), STATE);
        CHECK.due("back(1)", x.back(1), STATE);
        CHECK.due("undo()", x.undo(), STATE);
        CHECK.due("take(0)", x.take(0), BAD);
        CHECK.due("line(0, 0)", x.line(0, 0), BAD);
        CHECK.due("reason(0)", x.reason(0), BAD);
        CHECK.due("wipe()", x.wipe(), 0);
        CHECK.under("Promise 1: each object is new");
        x.write('d');
        x.set(0, 0);
        x.keep(0);
        CardTabulator y = new CardTabulator();
        CHECK.due("told(5) of another", y.told(5), 0);
        CHECK.due("setting(0) of another", y.setting(0), 1);
        CHECK.due("back(0) of another", y.back(0), STATE);
    }

    private static void sixFields() {
        CHECK.under("CARDS AND FIELDS: at first they are 0 and 2, 2 and 2, 4 and 3, 7 and 3, 10 and 4, 14 and 1");
        CardTabulator x = new CardTabulator();
        for (int field = 0; field < 6; field++) {
            CHECK.due("field(" + field + ", 0)", x.field(field, 0), FIRSTS[field]);
            CHECK.due("field(" + field + ", 1)", x.field(field, 1), WIDTHS[field]);
        }
        CHECK.under("CARDS AND FIELDS, Promises 2, 11 and 19: there are six fields, 0 to 5");
        for (int field : new int[] {-1, 6, Integer.MIN_VALUE, Integer.MAX_VALUE}) {
            CHECK.due("lay(" + field + ", 0, 1)", x.lay(field, 0, 1), BAD);
            CHECK.due("sort(" + field + ")", x.sort(field), BAD);
            CHECK.due("field(" + field + ", 0)", x.field(field, 0), BAD);
        }
        CHECK.due("lay(0, 0, 1)", x.lay(0, 0, 1), 0);
        CHECK.due("lay(5, 0, 1)", x.lay(5, 0, 1), 14);
        CHECK.due("sort(0)", x.sort(0), 0);
        CHECK.due("sort(5)", x.sort(5), 0);
    }

    private static void columnsOfACard() {
        CHECK.under("CARDS AND FIELDS: a card has the columns 0 to 23");
        CardTabulator x = Check.deckOf("d1");
        for (int column : new int[] {-1, 24, Integer.MIN_VALUE, Integer.MAX_VALUE, NONE}) {
            CHECK.due("column(0, " + column + ")", x.column(0, column), BAD);
            CHECK.due("repunch(0, " + column + ", 1)", x.repunch(0, column, 1), BAD);
            CHECK.due("mark(0, 3, " + column + ")", x.mark(0, 3, column), BAD);
            CHECK.due("pass(" + column + ")", x.pass(column), BAD);
            CHECK.due("lay(0, " + column + ", 1)", x.lay(0, column, 1), BAD);
        }
        for (int column : new int[] {0, 23}) {
            CHECK.due("repunch(0, " + column + ", 7)", x.repunch(0, column, 7),
                column == 0 ? 0 : NONE);
            CHECK.due("column(0, " + column + ")", x.column(0, column), 7);
            CHECK.due("mark(0, 3, " + column + ")", x.mark(0, 3, column), column == 0 ? 0 : 3);
            CHECK.due("pass(" + column + ")", x.pass(column), 0);
            CHECK.due("lay(0, " + column + ", 1)", x.lay(0, column, 1), 0);
        }
    }

    private static void digitsOfAColumn() {
        CHECK.under("CARDS AND FIELDS, Promises 8 and 20: a column is blank, or shows 0 to 9");
        CardTabulator x = Check.deckOf("d1");
        for (int digit = 0; digit <= 9; digit++) {
            CHECK.due("repunch(0, 9, " + digit + ")", x.repunch(0, 9, digit),
                digit == 0 ? NONE : digit - 1);
            CHECK.due("column(0, 9)", x.column(0, 9), digit);
        }
        CHECK.due("repunch(0, 9, NONE)", x.repunch(0, 9, NONE), 9);
        CHECK.due("column(0, 9)", x.column(0, 9), NONE);
        for (int digit : new int[] {-1, 10, NONE - 1, NONE + 1, BAD, Integer.MAX_VALUE}) {
            CHECK.due("repunch(0, 9, " + digit + ")", x.repunch(0, 9, digit), BAD);
            CHECK.due("column(0, 9)", x.column(0, 9), NONE);
        }
    }

    // ---- Promise 2

    private static void layReturnsTheFirstColumnBefore() {
        CHECK.under("Promise 2: returns the first column that it had");
        CardTabulator x = new CardTabulator();
        for (int field = 0; field < 6; field++) {
            CHECK.due("lay(" + field + ", 23, 1)", x.lay(field, 23, 1), FIRSTS[field]);
            CHECK.due("lay(" + field + ", 0, 1)", x.lay(field, 0, 1), 23);
            CHECK.due("lay(" + field + ", 5, 1)", x.lay(field, 5, 1), 0);
        }
    }

    private static void widths() {
        CHECK.under("CARDS AND FIELDS, Promise 2: a field has a width from 1 to 4");
        for (int field = 0; field < 5; field++) {
            CardTabulator x = new CardTabulator();
            for (int width : new int[] {0, 5, -1, -4, Integer.MIN_VALUE, Integer.MAX_VALUE}) {
                CHECK.due("lay(" + field + ", 3, " + width + ")", x.lay(field, 3, width), BAD);
            }
            CHECK.due("width behind them", x.field(field, 1), WIDTHS[field]);
            CHECK.due("first column behind them", x.field(field, 0), FIRSTS[field]);
            for (int width = 1; width <= 4; width++) {
                CHECK.due("lay(" + field + ", 3, " + width + ")", x.lay(field, 3, width),
                    width == 1 ? FIRSTS[field] : 3);
                CHECK.due("width behind it", x.field(field, 1), width);
            }
        }
    }

    private static void widthOfTheCheck() {
        CHECK.under("CARDS AND FIELDS, Promise 2: the width of the check is always 1");
        CardTabulator x = new CardTabulator();
        for (int width : new int[] {0, 2, 3, 4, 5, -1}) {
            CHECK.due("lay(5, 3, " + width + ")", x.lay(5, 3, width), BAD);
        }
        CHECK.due("lay(5, 3, 1)", x.lay(5, 3, 1), 14);
        CHECK.due("field(5, 1)", x.field(5, 1), 1);
    }

    private static void withinTheColumns() {
        CHECK.under("CARDS AND FIELDS, Promise 2: a field lies within the columns");
        for (int width = 1; width <= 4; width++) {
            CardTabulator x = new CardTabulator();
            CHECK.due("lay(0, -1, " + width + ")", x.lay(0, -1, width), BAD);
            CHECK.due("lay(0, " + (25 - width) + ", " + width + ")", x.lay(0, 25 - width, width), BAD);
            CHECK.due("field(0, 0) behind them", x.field(0, 0), 0);
            CHECK.due("lay(0, " + (24 - width) + ", " + width + ")", x.lay(0, 24 - width, width), 0);
            CHECK.due("lay(0, 0, " + width + ")", x.lay(0, 0, width), 24 - width);
        }
        CardTabulator x = new CardTabulator();
        CHECK.due("lay(5, -1, 1)", x.lay(5, -1, 1), BAD);
        CHECK.due("lay(5, 24, 1)", x.lay(5, 24, 1), BAD);
        CHECK.due("lay(5, 23, 1)", x.lay(5, 23, 1), 14);
        CHECK.due("lay(5, 0, 1)", x.lay(5, 0, 1), 23);
    }

    private static void layThatWrapsAround() {
        CHECK.under("Promise 2: BAD also if first + width is more than an int holds");
        CardTabulator x = new CardTabulator();
        int most = Integer.MAX_VALUE;
        int[][] wrong = {{most, 1}, {most, 4}, {most - 3, 4}, {most, most}, {0, most}, {1, most},
            {23, most}, {Integer.MIN_VALUE, 1}, {Integer.MIN_VALUE, most}, {-1, most},
            {Integer.MIN_VALUE, Integer.MIN_VALUE}, {0, Integer.MIN_VALUE}};
        for (int[] a : wrong) {
            CHECK.due("lay(4, " + a[0] + ", " + a[1] + ")", x.lay(4, a[0], a[1]), BAD);
        }
        CHECK.due("field(4, 0)", x.field(4, 0), 10);
        CHECK.due("field(4, 1)", x.field(4, 1), 4);
    }

    private static boolean isLaid(int field, int first, int width) {
        return first >= 0 && width >= 1 && first + width <= 24 && width <= (field == 5 ? 1 : 4);
    }

    private static void everyLay() {
        CHECK.under("Promise 2: every field, first column and width near the ranges");
        for (int field = 0; field < 6; field++) {
            for (int width = -1; width <= 6; width++) {
                CardTabulator x = new CardTabulator();
                int had = FIRSTS[field];
                for (int first = -2; first <= 26; first++) {
                    boolean laid = isLaid(field, first, width);
                    CHECK.due("lay(" + field + ", " + first + ", " + width + ")",
                        x.lay(field, first, width), laid ? had : BAD);
                    had = laid ? first : had;
                    CHECK.due("field(" + field + ", 0) then", x.field(field, 0), had);
                }
            }
        }
    }

    private static void fieldAsks() {
        CHECK.under("Promise 19: BAD if there is no such field or what is out of range");
        CardTabulator x = new CardTabulator();
        int[][] wrong = {{-1, 0}, {6, 0}, {-1, 1}, {6, 1}, {0, -1}, {0, 2}, {5, -1}, {5, 2},
            {Integer.MAX_VALUE, 0}, {0, Integer.MIN_VALUE}};
        for (int[] a : wrong) {
            CHECK.due("field(" + a[0] + ", " + a[1] + ")", x.field(a[0], a[1]), BAD);
        }
    }

    private static void fieldsShareColumns() {
        CHECK.under("CARDS AND FIELDS: fields can share columns");
        CardTabulator x = Check.deckOf("r1234");
        for (int field = 0; field < 5; field++) {
            CHECK.due("lay(" + field + ", 10, 4)", x.lay(field, 10, 4), FIRSTS[field]);
        }
        CHECK.due("lay(5, 12, 1)", x.lay(5, 12, 1), 14);
        for (int field = 0; field < 5; field++) {
            CHECK.due("card(0, " + field + ")", x.card(0, field), 1234);
        }
        CHECK.due("card(0, 5)", x.card(0, 5), 3);
        CHECK.due("lay(0, 11, 4) shares a part", x.lay(0, 11, 4), 10);
        // Column 14 holds the check digit of the rate: 3 * (1 + 3) + (2 + 4) = 18.
        CHECK.due("card(0, 0)", x.card(0, 0), 2348);
    }

    private static void cardsStayAsTheyArePunched() {
        CHECK.under("Promise 2: cards stay as they are punched");
        CardTabulator x = Check.deckOf("d12 g34 w567 h890 r1234");
        String before = Check.columns(x, 0);
        for (int field = 0; field < 6; field++) {
            x.lay(field, 23, 1);
        }
        CHECK.dueText("columns behind lay", Check.columns(x, 0), before);
        for (int field = 0; field < 6; field++) {
            CHECK.due("card(0, " + field + ") laid on a blank", x.card(0, field), NONE);
        }
    }

    // ---- values

    private static void valueOfBlanks() {
        CHECK.under("CARDS AND FIELDS, Promise 21: a field has no value if one of its columns is blank");
        for (int field = 0; field < 6; field++) {
            CardTabulator x = Check.deckOf("d11 g11 w111 h111 r1111");
            int value = x.card(0, field);
            for (int column = 0; column < 24; column++) {
                int was = x.repunch(0, column, NONE);
                boolean within = column >= FIRSTS[field] && column < FIRSTS[field] + WIDTHS[field];
                CHECK.due("card(0, " + field + ") with a blank in column " + column,
                    x.card(0, field), within ? NONE : value);
                x.repunch(0, column, was);
            }
        }
        CardTabulator blank = Check.deckOf("r1");
        for (int field = 0; field < 4; field++) {
            CHECK.due("card(0, " + field + ") that is all blank", blank.card(0, field), NONE);
        }
    }

    private static void leastAndGreatestValues() {
        CHECK.under("CARDS AND FIELDS, Promise 21: the value is the number that the columns show");
        CardTabulator x = Check.deckOf("d0 g0 w0 h0 r0", "d99 g99 w999 h999 r9999", "d09 g90 w010 h001 r0100");
        int[][] due = {{0, 0, 0, 0, 0, 0}, {99, 99, 999, 999, 9999, 0}, {9, 90, 10, 1, 100, 1}};
        for (int card = 0; card < 3; card++) {
            for (int field = 0; field < 6; field++) {
                CHECK.due("card(" + card + ", " + field + ")", x.card(card, field), due[card][field]);
            }
        }
        x.lay(0, 20, 4);
        for (int column = 20; column < 24; column++) {
            x.repunch(0, column, 9);
        }
        CHECK.due("card(0, 0) in the last four columns", x.card(0, 0), 9999);
        x.lay(0, 23, 1);
        CHECK.due("card(0, 0) in the last column", x.card(0, 0), 9);
    }

    // ---- the check digit that is due

    private static void placesInTheField() {
        CHECK.under("CARDS AND FIELDS, Promise 21: even places count three times, odd ones once");
        int[] weights = {3, 1, 3, 1, 3, 1, 3, 3, 1, 3, 3, 1, 3, 1, 0, 0, 0, 0, 0, 0, 0, 0, 0, 0};
        for (int column = 0; column < 24; column++) {
            CardTabulator x = Check.deckOf("d0");
            x.repunch(0, column, 1);
            CHECK.due("due with a 1 in column " + column, x.card(0, 6), weights[column]);
            x.repunch(0, column, 2);
            CHECK.due("due with a 2 in column " + column, x.card(0, 6), 2 * weights[column]);
        }
    }

    private static void checkIsCountedFromTheFirstColumnOn() {
        CHECK.under("CARDS AND FIELDS: places are counted from the first column of the field on");
        CardTabulator x = Check.deckOf("d0");
        for (int field = 1; field < 5; field++) {
            x.lay(field, 20, 1);
        }
        x.repunch(0, 6, 1);
        int[] firsts = {6, 5, 4, 3};
        int[] due = {3, 1, 3, 1};
        for (int i = 0; i < 4; i++) {
            x.lay(0, firsts[i], 4);
            CHECK.due("due with column 6 at place " + i, x.card(0, 6), due[i]);
        }
        x.lay(0, 2, 4);
        CHECK.due("due with column 6 behind the field", x.card(0, 6), 0);
        x.lay(0, 7, 4);
        CHECK.due("due with column 6 before the field", x.card(0, 6), 0);
    }

    private static void checkModuloTen() {
        CHECK.under("CARDS AND FIELDS: the sum modulo 10");
        String[] texts = {"d30", "d31", "d32", "d99", "d0", "d99 g99 w999 h999 r9999"};
        int[] due = {9, 0, 1, 6, 0, 0};
        for (int i = 0; i < texts.length; i++) {
            CardTabulator x = Check.deckOf(texts[i]);
            CHECK.due("due on " + texts[i], x.card(0, 6), due[i]);
            CHECK.due("punched on " + texts[i], x.card(0, 5), due[i]);
        }
    }

    private static void columnsOfSeveralFields() {
        CHECK.under("CARDS AND FIELDS: a column of several fields counts for each of them");
        CardTabulator x = Check.deckOf("d10");
        int[] due = {3, 6, 9, 2, 5};
        for (int field = 0; field < 5; field++) {
            x.lay(field, 0, 1);
            CHECK.due("due with a 1 of " + (field + 1) + " fields", x.card(0, 6), due[field]);
        }
        x.repunch(0, 1, 1);
        x.lay(1, 0, 2);
        CHECK.due("due with a second column", x.card(0, 6), 6);
        x.lay(2, 1, 1);
        CHECK.due("due with a column at an odd and an even place", x.card(0, 6), 6);
        x.lay(3, 1, 1);
        x.repunch(0, 0, 0);
        // Column 1 is at an odd place of field 1, and at an even place of the fields 2 and 3.
        CHECK.due("due with column 1 alone", x.card(0, 6), 7);
    }

    private static void theCheckItselfDoesNotCount() {
        CHECK.under("CARDS AND FIELDS: the fields 0 to 4 count, the check doesn't");
        CardTabulator x = Check.deckOf("d0");
        for (int digit = 0; digit <= 9; digit++) {
            x.repunch(0, 14, digit);
            CHECK.due("due with a " + digit + " in the check", x.card(0, 6), 0);
        }
        x.repunch(0, 0, 1);
        x.lay(5, 0, 1);
        CHECK.due("due with the check in a column of the department", x.card(0, 6), 3);
    }

    private static void blanksCountAsZero() {
        CHECK.under("CARDS AND FIELDS: blank columns count as 0");
        CardTabulator x = Check.deckOf("w111");
        CHECK.due("due on a card with blank fields", x.card(0, 6), 7);
        x.repunch(0, 4, NONE);
        CHECK.due("due with a blank at place 0", x.card(0, 6), 4);
        x.repunch(0, 5, NONE);
        CHECK.due("due with blanks at the places 0 and 1", x.card(0, 6), 3);
        x.repunch(0, 6, NONE);
        CHECK.due("due on a card with blanks alone", x.card(0, 6), 0);
    }

    // ---- the deck

    private static void fortyCards() {
        CHECK.under("CARDS AND FIELDS, Promise 5: a deck has at most 40 cards");
        CardTabulator x = new CardTabulator();
        Check.type(x, "w1");
        for (int i = 0; i < 39; i++) {
            x.punch(0);
        }
        CHECK.due("punch(39) of the 40th card", x.punch(39), 40);
        CHECK.due("punch(0) of a 41st card", x.punch(0), FULL);
        CHECK.due("punch(40) of a 41st card", x.punch(40), FULL);
        CHECK.due("told(0)", x.told(0), 40);
        CHECK.due("take(39)", x.take(39), 39);
        CHECK.due("punch(0) into the room of one", x.punch(0), 40);
        CHECK.due("punch(0) of a 41st card again", x.punch(0), FULL);
    }

    private static void numbersOfCards() {
        CHECK.under("CARDS AND FIELDS: cards are numbered from 0 in the order of the deck");
        CardTabulator x = Check.deckOf("w7", "w8", "w9");
        CHECK.due("card(0, 2)", x.card(0, 2), 7);
        CHECK.due("card(2, 2)", x.card(2, 2), 9);
        for (int card : new int[] {-1, 3, 40, Integer.MIN_VALUE, Integer.MAX_VALUE, NONE}) {
            CHECK.due("card(" + card + ", 2)", x.card(card, 2), BAD);
            CHECK.due("column(" + card + ", 0)", x.column(card, 0), BAD);
            CHECK.due("take(" + card + ")", x.take(card), BAD);
            CHECK.due("move(" + card + ", 0)", x.move(card, 0), BAD);
            CHECK.due("move(0, " + card + ")", x.move(0, card), BAD);
            CHECK.due("repunch(" + card + ", 0, 0)", x.repunch(card, 0, 0), BAD);
            CHECK.due("mark(" + card + ", 0, 0)", x.mark(card, 0, 0), BAD);
        }
    }

    private static void marksAtFirst() {
        CHECK.under("CARDS AND FIELDS: the mark is 0 at first, and so is the torn column");
        CardTabulator x = Check.deckOf("w1");
        CHECK.due("card(0, 7)", x.card(0, 7), 0);
        CHECK.due("card(0, 8)", x.card(0, 8), 0);
        x.mark(0, 3, 23);
        x.punch(1);
        CHECK.due("card(1, 7)", x.card(1, 7), 0);
        CHECK.due("card(1, 8)", x.card(1, 8), 0);
        x.take(0);
        x.punch(0);
        CHECK.due("card(0, 7) in the place of a torn one", x.card(0, 7), 0);
        CHECK.due("card(0, 8) in the place of a torn one", x.card(0, 8), 0);
        x.mark(1, 1, 9);
        x.take(1);
        x.punch(1);
        CHECK.due("card(1, 7) behind a skipped one was taken", x.card(1, 7), 0);
        CHECK.due("card(1, 8) behind a skipped one was taken", x.card(1, 8), 0);
        x.mark(0, 2, 5);
        x.undo();
        x.undo();
        x.punch(1);
        CHECK.due("card(1, 7) behind undo", x.card(1, 7), 0);
        CHECK.due("card(1, 8) behind undo", x.card(1, 8), 0);
    }
}
