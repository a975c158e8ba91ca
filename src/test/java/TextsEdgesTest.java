/**
 * Boundary cases of the term TEXTS, and of promises 5 and 14 to 16: the bytes of a text, its words,
 * the kinds and places of faults, and how a card is punched.
 */
public final class TextsEdgesTest {
    private static final int BAD = CardTabulator.BAD, STATE = CardTabulator.STATE;
    private static final int FULL = CardTabulator.FULL, NONE = CardTabulator.NONE;
    private static final String LETTERS = "dgwhr";
    private static final int[] WIDTHS = {2, 2, 3, 3, 4};
    private static final Check CHECK = new Check();

    public static void main(String[] args) {
        codes();
        fiftyBytes();
        emptyText();
        wipe();
        everyByteAtTheBeginning();
        everyByteBehindALetter();
        everyByteBehindADigit();
        everyByteBehindABlank();
        blanksBetweenWords();
        atLeastOneDigit();
        toldBefore();
        tooManyDigits();
        widthOfThePunch();
        endOfTheText();
        blankBehindALetter();
        longestTexts();
        firstFaultCounts();
        latestFault();
        faultAsks();
        places();
        fullDeck();
        zerosAhead();
        toldFieldsAlone();
        orderOfFields();
        checkLast();
        theTextStays();
        CHECK.end("TextsEdgesTest");
    }

    private static void duePunched(String text) {
        CardTabulator x = new CardTabulator();
        Check.type(x, text);
        CHECK.due("punch(0) of '" + text + "'", x.punch(0), 1);
        CHECK.due("fault(0) behind '" + text + "'", x.fault(0), NONE);
    }

    private static void dueFault(String text, int kind, int place) {
        CHECK.dueFault(new CardTabulator(), text, kind, place);
    }

    // ---- bytes

    private static void codes() {
        CHECK.under("TEXTS, Promise 14: bytes with codes from 32 to 126");
        CardTabulator x = new CardTabulator();
        int[] wrong = {31, 127, 0, -1, 128, 255, 32 + 256, 65536 + 'd', Integer.MIN_VALUE,
            Integer.MAX_VALUE, NONE, BAD};
        for (int code : wrong) {
            CHECK.due("write(" + code + ")", x.write(code), BAD);
        }
        CHECK.due("told(5) behind them", x.told(5), 0);
        CHECK.due("write(32)", x.write(32), 1);
        CHECK.due("write(126)", x.write(126), 2);
        for (int code = 33; code < 126; code++) {
            CardTabulator y = new CardTabulator();
            CHECK.due("write(" + code + ")", y.write(code), 1);
        }
    }

    private static void fiftyBytes() {
        CHECK.under("TEXTS, Promise 14: the text has at most 50 bytes");
        CardTabulator x = new CardTabulator();
        for (int i = 1; i <= 50; i++) {
            CHECK.due("write(32) as byte " + i, x.write(32), i);
        }
        CHECK.due("write(32) of a 51st byte", x.write(32), FULL);
        CHECK.due("write(100) of a 51st byte", x.write(100), FULL);
        CHECK.due("told(5)", x.told(5), 50);
        CHECK.due("wipe()", x.wipe(), 50);
        CHECK.due("write(100) into the empty text", x.write(100), 1);
        CHECK.under("Promise 14: returns FULL, and the bytes stay");
        CardTabulator y = new CardTabulator();
        Check.type(y, " ".repeat(46) + "w123");
        CHECK.due("write('4')", y.write('4'), FULL);
        CHECK.due("punch(0)", y.punch(0), 1);
        CHECK.due("card(0, 2)", y.card(0, 2), 123);
    }

    private static void emptyText() {
        CHECK.under("TEXTS: the text is empty at first");
        CardTabulator x = new CardTabulator();
        CHECK.due("told(5)", x.told(5), 0);
        CHECK.due("write(100)", x.write(100), 1);
    }

    private static void wipe() {
        CHECK.under("Promise 15: empties the text, and returns the length that it had");
        CardTabulator x = new CardTabulator();
        CHECK.due("wipe() of the empty text", x.wipe(), 0);
        Check.type(x, "d1 g2");
        CHECK.due("wipe()", x.wipe(), 5);
        CHECK.due("wipe() again", x.wipe(), 0);
        CHECK.due("told(5)", x.told(5), 0);
        CHECK.due("punch(0) of the empty text", x.punch(0), STATE);
        CHECK.due("fault(0)", x.fault(0), 4);
        CHECK.due("fault(1)", x.fault(1), 0);
        Check.type(x, "w7");
        x.punch(0);
        CHECK.dueColumns("a text that was wiped", x, 0, "____007_______1");
    }

    // ---- bytes that cannot stand at their place

    private static boolean isDigit(char sign) {
        return sign >= '0' && sign <= '9';
    }

    private static void everyByteAtTheBeginning() {
        CHECK.under("TEXTS: a word begins with one of the letters d, g, w, h and r");
        for (char sign = '!'; sign <= '~'; sign++) {
            if (LETTERS.indexOf(sign) >= 0) {
                duePunched(sign + "1");
            } else {
                dueFault(sign + "1", 1, 0);
            }
        }
        dueFault(" 1", 1, 1);
    }

    private static void everyByteBehindALetter() {
        CHECK.under("TEXTS: behind the letter stands a digit");
        for (char letter : LETTERS.toCharArray()) {
            for (char sign = ' '; sign <= '~'; sign++) {
                String text = String.valueOf(letter) + sign;
                if (isDigit(sign)) {
                    duePunched(text);
                } else {
                    dueFault(text, 1, 1);
                }
            }
        }
    }

    private static void everyByteBehindADigit() {
        CHECK.under("TEXTS: behind a digit stands a digit or a blank, a letter is a fault of the kind 1");
        for (char letter : LETTERS.toCharArray()) {
            for (char sign = ' '; sign <= '~'; sign++) {
                String text = letter + "1" + sign;
                if (isDigit(sign) || sign == ' ') {
                    duePunched(text);
                } else {
                    dueFault(text, 1, 2);
                }
            }
        }
        dueFault("d1g2", 1, 2);
        dueFault("d1d2", 1, 2);
        dueFault("r1234x", 1, 5);
    }

    private static void everyByteBehindABlank() {
        CHECK.under("TEXTS: behind a blank stands a blank or one of the letters");
        for (char sign = ' '; sign <= '~'; sign++) {
            String text = "d1 " + sign;
            if (sign == ' ') {
                duePunched(text);
            } else if (sign == 'd') {
                dueFault(text, 2, 3);
            } else if (LETTERS.indexOf(sign) >= 0) {
                dueFault(text, 4, 4);
            } else {
                dueFault(text, 1, 3);
            }
        }
    }

    // ---- words

    private static void blanksBetweenWords() {
        CHECK.under("TEXTS: one or more blanks between words, perhaps blanks at the beginning and the end");
        String[] texts = {"d1 g2", "d1  g2", "d1" + " ".repeat(46) + "g2", " d1", "d1 ",
            " ".repeat(48) + "d1", "d1" + " ".repeat(48), "   d1   g2   "};
        for (String text : texts) {
            duePunched(text);
        }
        dueFault("d1\tg2".replace('\t', '~'), 1, 2);
    }

    private static void atLeastOneDigit() {
        CHECK.under("TEXTS: digits behind the letter, at least one");
        for (int field = 0; field < 5; field++) {
            String letter = LETTERS.substring(field, field + 1);
            duePunched(letter + "0");
            dueFault(letter, 4, 1);
            dueFault(letter + " ", 1, 1);
            dueFault(letter + letter, 1, 1);
        }
    }

    private static void toldBefore() {
        CHECK.under("TEXTS: 2 a field that was told before, the place is that of its letter");
        for (char letter : LETTERS.toCharArray()) {
            for (char other : LETTERS.toCharArray()) {
                String text = letter + "1  " + other;
                if (letter == other) {
                    dueFault(text + "1", 2, 4);
                    dueFault(text, 2, 4);
                    dueFault(text + "x", 2, 4);
                    dueFault(text + "99999", 2, 4);
                } else {
                    duePunched(text + "1");
                }
            }
        }
        for (char letter : LETTERS.toCharArray()) {
            dueFault("d1 g1 w1 h1 r1 " + letter + "1", 2, 15);
        }
        dueFault("d0 g1 d0", 2, 6);
        duePunched("d1 g1 w1 h1 r1");
    }

    private static void tooManyDigits() {
        CHECK.under("TEXTS: 3 a number with more digits than the field is wide, the place is that of the first one too many");
        for (int field = 0; field < 5; field++) {
            String letter = LETTERS.substring(field, field + 1);
            int width = WIDTHS[field];
            duePunched(letter + "9".repeat(width));
            duePunched(letter + "0".repeat(width));
            dueFault(letter + "9".repeat(width + 1), 3, 1 + width);
            dueFault(letter + "0".repeat(width + 1), 3, 1 + width);
            dueFault(letter + "9".repeat(width + 5) + "x", 3, 1 + width);
            dueFault("  " + letter + "0".repeat(width) + "1 ", 3, 3 + width);
        }
    }

    private static void widthOfThePunch() {
        CHECK.under("TEXTS: as many digits as the field is wide when the card is punched");
        for (int field = 0; field < 5; field++) {
            String letter = LETTERS.substring(field, field + 1);
            for (int width = 1; width <= 4; width++) {
                CardTabulator x = new CardTabulator();
                Check.type(x, letter + "7".repeat(width + 1));
                x.lay(field, 3, width);
                CHECK.due("punch(0) of a digit more than " + width, x.punch(0), STATE);
                CHECK.due("fault(0)", x.fault(0), 3);
                CHECK.due("fault(1)", x.fault(1), 1 + width);
                Check.type(x, letter + "7".repeat(width));
                CHECK.due("punch(0) of " + width + " digits", x.punch(0), 1);
            }
        }
        CardTabulator x = new CardTabulator();
        Check.type(x, "d123");
        CHECK.due("punch(0) of a text that is too wide", x.punch(0), STATE);
        x.lay(0, 20, 3);
        CHECK.due("punch(0) of the same text, into a wider field", x.punch(0), 1);
    }

    private static void endOfTheText() {
        CHECK.under("TEXTS: 4 the end of the text behind a letter, or without a word; the place is the length");
        dueFault("", 4, 0);
        dueFault(" ", 4, 1);
        dueFault(" ".repeat(50), 4, 50);
        for (char letter : LETTERS.toCharArray()) {
            dueFault(String.valueOf(letter), 4, 1);
            dueFault(" ".repeat(49) + letter, 4, 50);
        }
        dueFault("d1 g2 w", 4, 7);
        dueFault("d1 g", 4, 4);
    }

    private static void blankBehindALetter() {
        CHECK.under("TEXTS: a blank directly behind a letter is of the kind 1");
        dueFault("d ", 1, 1);
        dueFault("d 1", 1, 1);
        dueFault("d1 g ", 1, 4);
        dueFault("d1 g 2", 1, 4);
        dueFault(" ".repeat(48) + "d ", 1, 49);
    }

    private static void longestTexts() {
        CHECK.under("TEXTS: texts of 50 bytes are read to their last byte");
        duePunched(" ".repeat(48) + "d1");
        duePunched(" ".repeat(45) + "r1234");
        duePunched("d12 g34 w567 h890 r1234" + " ".repeat(27));
        dueFault(" ".repeat(49) + "x", 1, 49);
        dueFault(" ".repeat(47) + "d1x", 1, 49);
        dueFault("d1" + " ".repeat(47) + "d", 2, 49);
        dueFault(" ".repeat(46) + "d123", 3, 49);
        CardTabulator x = Check.deckOf(" ".repeat(45) + "r1234");
        CHECK.due("card(0, 4)", x.card(0, 4), 1234);
    }

    private static void firstFaultCounts() {
        CHECK.under("TEXTS: the text is read from left to right, and the first fault counts");
        dueFault("x d1 d1", 1, 0);
        dueFault("d1 d1 x", 2, 3);
        dueFault("d1 x d1", 1, 3);
        dueFault("d123 d1", 3, 3);
        dueFault("d1 d123", 2, 3);
        dueFault("g123 x", 3, 3);
        dueFault("x g123", 1, 0);
        dueFault("g1 d123 g1", 3, 6);
        dueFault("g1 g1 d123", 2, 3);
        dueFault("d1 d", 2, 3);
        dueFault("x d", 1, 0);
        dueFault("g123 d", 3, 3);
        dueFault("d123x", 3, 3);
        dueFault("d12x3", 1, 3);
    }

    // ---- Promise 16

    private static void dueLatestFault(CardTabulator x, String behind, int kind, int place) {
        CHECK.due("fault(0) behind " + behind, x.fault(0), kind);
        CHECK.due("fault(1) behind " + behind, x.fault(1), place);
    }

    private static void latestFault() {
        CHECK.under("Promise 16: the fault that the latest punch that returned STATE has found");
        CardTabulator x = new CardTabulator();
        dueLatestFault(x, "no punch", NONE, NONE);
        Check.type(x, "d1");
        x.punch(0);
        dueLatestFault(x, "a punch that was well", NONE, NONE);
        Check.type(x, "g123 x");
        dueLatestFault(x, "a text with a fault that was not punched", NONE, NONE);
        x.punch(2);
        dueLatestFault(x, "a punch that returned BAD", NONE, NONE);
        x.punch(0);
        dueLatestFault(x, "STATE", 3, 3);
        Check.type(x, "?");
        x.punch(9);
        dueLatestFault(x, "BAD with another fault in the text", 3, 3);
        x.undo();
        x.undo();
        dueLatestFault(x, "STATE of undo", 3, 3);
        x.back(0);
        dueLatestFault(x, "STATE of back", 3, 3);
        x.wipe();
        dueLatestFault(x, "wipe", 3, 3);
        Check.type(x, "w1");
        x.punch(0);
        dueLatestFault(x, "a punch that was well", 3, 3);
        x.wipe();
        x.punch(0);
        dueLatestFault(x, "another STATE", 4, 0);
        CHECK.under("Promise 16: also if the deck is full");
        Check.type(x, "w1");
        for (int i = x.told(0); i < 40; i++) {
            x.punch(0);
        }
        x.punch(0);
        dueLatestFault(x, "FULL", 4, 0);
        x.write('~');
        x.punch(0);
        dueLatestFault(x, "STATE with 40 cards", 1, 2);
    }

    private static void faultAsks() {
        CHECK.under("Promise 16: BAD if what is out of range");
        CardTabulator x = new CardTabulator();
        for (int round = 0; round < 2; round++) {
            for (int what : new int[] {-1, 2, Integer.MIN_VALUE, Integer.MAX_VALUE, NONE}) {
                CHECK.due("fault(" + what + ")", x.fault(what), BAD);
            }
            x.punch(0);
        }
    }

    // ---- Promise 5

    private static void places() {
        CHECK.under("Promise 5: place is 0 to the number of cards; cards from it on move back");
        CardTabulator x = new CardTabulator();
        Check.type(x, "w1");
        int[] wrong = {-1, 1, 40, Integer.MIN_VALUE, Integer.MAX_VALUE, NONE};
        for (int place : wrong) {
            CHECK.due("punch(" + place + ") into an empty deck", x.punch(place), BAD);
        }
        CHECK.due("punch(0) into an empty deck", x.punch(0), 1);
        Check.type(x, "w2");
        CHECK.due("punch(2) behind one card", x.punch(2), BAD);
        CHECK.due("punch(1) behind one card", x.punch(1), 2);
        Check.type(x, "w3");
        CHECK.due("punch(0) before two cards", x.punch(0), 3);
        CHECK.dueWorkers("punch(0)", x, "3 1 2");
        Check.type(x, "w4");
        CHECK.due("punch(1)", x.punch(1), 4);
        CHECK.dueWorkers("punch(1)", x, "3 4 1 2");
        Check.type(x, "w5");
        CHECK.due("punch(4) behind the last", x.punch(4), 5);
        CHECK.dueWorkers("punch(4)", x, "3 4 1 2 5");
        CHECK.due("punch(6)", x.punch(6), BAD);
    }

    private static void fullDeck() {
        CHECK.under("Promise 5: FULL if there are 40 cards, and the cards stay");
        CardTabulator x = new CardTabulator();
        Check.type(x, "w1");
        for (int i = 0; i < 40; i++) {
            CHECK.due("punch(" + i + ")", x.punch(i), i + 1);
        }
        Check.type(x, "w2");
        CHECK.due("punch(40)", x.punch(40), FULL);
        CHECK.due("punch(0)", x.punch(0), FULL);
        CHECK.due("punch(41)", x.punch(41), BAD);
        CHECK.due("punch(-1)", x.punch(-1), BAD);
        CHECK.dueWorkers("FULL", x, "1" + " 1".repeat(39));
        CHECK.due("told(6)", x.told(6), 8);
        x.undo();
        CHECK.due("told(0) behind undo: FULL was no change", x.told(0), 39);
        CHECK.due("punch(39) behind undo", x.punch(39), 40);
        CHECK.due("card(39, 2)", x.card(39, 2), 2);
    }

    private static void zerosAhead() {
        CHECK.under("TEXTS: zeros ahead of a number with fewer digits than the field is wide");
        CHECK.dueColumns("d1 g2 w3 h4 r5", Check.deckOf("d1 g2 w3 h4 r5"), 0, "010200300400059");
        CHECK.dueColumns("d0 g0 w0 h0 r0", Check.deckOf("d0 g0 w0 h0 r0"), 0, "000000000000000");
        CHECK.dueColumns("w12 h34 r567", Check.deckOf("w12 h34 r567"), 0, "____01203405672");
        CHECK.dueColumns("d12 g34 w567 h890 r1234", Check.deckOf("d12 g34 w567 h890 r1234"), 0,
            "123456789012341");
        for (int width = 1; width <= 4; width++) {
            CardTabulator x = new CardTabulator();
            x.lay(0, 20, width);
            Check.punchAll(x, "d8");
            for (int place = 0; place < width; place++) {
                CHECK.due("column " + (20 + place) + " of d8, " + width + " wide",
                    x.column(0, 20 + place), place == width - 1 ? 8 : 0);
            }
            CHECK.due("the column before it", x.column(0, 19), NONE);
        }
    }

    private static void toldFieldsAlone() {
        CHECK.under("TEXTS: a card is blank at first, the fields that are told are punched");
        String[] texts = {"d11", "g11", "w111", "h111", "r1111"};
        String[] due = {"11____________4", "__11__________4", "____111_______7", "_______111____7",
            "__________11118"};
        CardTabulator x = new CardTabulator();
        for (int i = 0; i < 5; i++) {
            Check.punchAll(x, texts[i]);
            CHECK.dueColumns(texts[i], x, i, due[i]);
        }
        x.repunch(4, 22, 9);
        x.repunch(4, 0, 9);
        x.take(4);
        Check.punchAll(x, "w111");
        CHECK.dueColumns("a card in the place of one that was taken", x, 4, due[2]);
    }

    private static void orderOfFields() {
        CHECK.under("TEXTS: the fields 0 to 4 in this order; what is punched later replaces what was earlier");
        for (int later = 1; later < 5; later++) {
            CardTabulator x = new CardTabulator();
            int earlier = later - 1;
            x.lay(earlier, 20, 1);
            x.lay(later, 20, 1);
            char first = LETTERS.charAt(earlier);
            char second = LETTERS.charAt(later);
            Check.punchAll(x, first + "1 " + second + "2", second + "2 " + first + "1", first + "1");
            CHECK.due("column(0, 20): " + second + " behind " + first, x.column(0, 20), 2);
            CHECK.due("column(1, 20): " + second + " told before " + first, x.column(1, 20), 2);
            CHECK.due("column(2, 20): " + first + " alone", x.column(2, 20), 1);
        }
        CardTabulator x = new CardTabulator();
        x.lay(1, 1, 2);
        Check.punchAll(x, "d12 g34");
        // The department shows 13: 3 * (1 + 3) + (3 + 4) = 19.
        CHECK.dueColumns("fields that share one column", x, 0, "134___________9");
    }

    private static void checkLast() {
        CHECK.under("TEXTS: then the check digit that is due is punched, and replaces what was there");
        CardTabulator x = new CardTabulator();
        x.lay(5, 1, 1);
        Check.punchAll(x, "d24");
        // 3 * 2 + 4 = 10: the digit is due by the card before it is punched.
        CHECK.dueColumns("d24 with the check in column 1", x, 0, "20");
        CHECK.due("card(0, 6) behind it", x.card(0, 6), 6);
        CHECK.due("card(0, 0) behind it", x.card(0, 0), 20);
        x.lay(5, 23, 1);
        Check.punchAll(x, "d24");
        CHECK.dueColumns("the check in the last column", x, 1, "24_____________________0");
        x.lay(5, 0, 1);
        Check.punchAll(x, "g99");
        CHECK.dueColumns("the check in the first column", x, 2, "6_99");
    }

    private static void theTextStays() {
        CHECK.under("Promise 5: the text stays");
        CardTabulator x = new CardTabulator();
        Check.type(x, "w12");
        x.punch(0);
        CHECK.due("told(5) behind punch", x.told(5), 3);
        CHECK.due("punch(0) again", x.punch(0), 2);
        CHECK.due("write('3') behind punch", x.write('3'), 4);
        CHECK.due("punch(2)", x.punch(2), 3);
        CHECK.due("write('4')", x.write('4'), 5);
        CHECK.due("punch(0) of a fault", x.punch(0), STATE);
        CHECK.due("told(5) behind a fault", x.told(5), 5);
        CHECK.dueWorkers("three punches", x, "12 12 123");
    }
}
