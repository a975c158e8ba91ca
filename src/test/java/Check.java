/** Compares answers with the ones that are due, and helps tests to set up decks. */
final class Check {
    private int wrong;
    private String sentence = "";

    /** Names the promise or the term that asks for the answers from here on. */
    void under(String promiseOrTerm) {
        sentence = promiseOrTerm + " -- ";
    }

    void due(String call, long got, long want) {
        if (got != want) {
            wrong++;
            System.out.println(sentence + call + " answered " + got + ", due is " + want);
        }
    }

    void dueText(String call, String got, String want) {
        if (!got.equals(want)) {
            wrong++;
            System.out.println(sentence + call + " answered " + got + ", due is " + want);
        }
    }

    void dueFloat(String call, float got, float want) {
        if (!(got == want)) {
            wrong++;
            System.out.println(sentence + call + " answered " + got + ", due is " + want);
        }
    }

    void end(String test) {
        System.out.println(test + ": " + (wrong == 0 ? "well" : wrong + " answers are not as due"));
        if (wrong != 0) {
            System.exit(1);
        }
    }

    /** The text becomes this one. */
    static void type(CardTabulator x, String text) {
        x.wipe();
        for (int i = 0; i < text.length(); i++) {
            x.write(text.charAt(i));
        }
    }

    /** Punches cards from texts, behind those that are there. */
    static void punchAll(CardTabulator x, String... texts) {
        for (String text : texts) {
            type(x, text);
            x.punch(x.told(0));
        }
    }

    static CardTabulator deckOf(String... texts) {
        CardTabulator x = new CardTabulator();
        punchAll(x, texts);
        return x;
    }

    /** The workers' numbers of the cards in their order, blank between two of them. */
    static String workers(CardTabulator x) {
        StringBuilder told = new StringBuilder();
        for (int i = 0; i < x.told(0); i++) {
            told.append(i == 0 ? "" : " ").append(x.card(i, 2));
        }
        return told.toString();
    }

    void dueWorkers(String call, CardTabulator x, String want) {
        if (!workers(x).equals(want)) {
            wrong++;
            System.out.println(sentence + call + " left the workers " + workers(x) + ", due are " + want);
        }
    }

    /** What the columns of a card show, from the first one on, '_' for a blank. */
    static String columns(CardTabulator x, int card) {
        StringBuilder told = new StringBuilder();
        for (int column = 0; column < 24; column++) {
            int digit = x.column(card, column);
            told.append(digit == CardTabulator.NONE ? "_" : String.valueOf(digit));
        }
        return told.toString();
    }

    /** Columns behind those that are told are blank. */
    void dueColumns(String call, CardTabulator x, int card, String want) {
        dueText("columns of card " + card + " behind " + call, columns(x, card),
            want + "_".repeat(24 - want.length()));
    }

    /** The kinds of all lines of the report. */
    static String kinds(CardTabulator x) {
        StringBuilder told = new StringBuilder();
        for (int line = 0; line < x.told(1); line++) {
            told.append(x.line(line, 0));
        }
        return told.toString();
    }

    /** The reasons of all cards of the latest run, which were so many. */
    static String reasons(CardTabulator x, int cards) {
        StringBuilder told = new StringBuilder();
        for (int k = 0; k < cards; k++) {
            told.append(x.reason(k));
        }
        return told.toString();
    }

    /** The fault that punch() finds in a text, which must be one. */
    void dueFault(CardTabulator x, String text, int kind, int place) {
        type(x, text);
        due("punch of '" + text + "'", x.punch(0), CardTabulator.STATE);
        due("fault(0) of '" + text + "'", x.fault(0), kind);
        due("fault(1) of '" + text + "'", x.fault(1), place);
    }

    /** All nine numbers of a line. */
    void dueLine(CardTabulator x, int line, int... numbers) {
        for (int what = 0; what < numbers.length; what++) {
            due("line(" + line + ", " + what + ")", x.line(line, what), numbers[what]);
        }
    }
}
