/**
 * All that an object tells, in parts: each part is asked of an object of its own, as an object is
 * used for at most 512 calls.
 */
final class Whole {
    static final int PARTS = 5;

    private Whole() {
    }

    static String part(CardTabulator x, int part) {
        switch (part) {
            case 0: return present(x);
            case 1: return past(x);
            case 2: return image(x, 0);
            case 3: return image(x, 1);
            default: return textAndControls(x);
        }
    }

    /** The present state, the text's length and the latest fault. */
    private static String present(CardTabulator x) {
        StringBuilder told = new StringBuilder();
        add(told, x.fault(0), x.fault(1), x.agrees(), x.passes());
        for (int i = 0; i < 7; i++) {
            add(told, x.told(i));
        }
        for (int i = 0; i < 4; i++) {
            add(told, x.setting(i));
        }
        for (int i = 0; i < 6; i++) {
            add(told, x.field(i, 0), x.field(i, 1));
        }
        addCards(told, x);
        addReport(told, x);
        return told.toString();
    }

    /** All columns of the first three cards, and the workers of the others. */
    private static void addCards(StringBuilder told, CardTabulator x) {
        for (int card = 0; card < x.told(0); card++) {
            if (card < 3) {
                told.append(Check.columns(x, card)).append(' ');
                add(told, x.card(card, 7), x.card(card, 8), x.card(card, 9));
            } else {
                add(told, x.card(card, 2));
            }
        }
        for (int rule = 0; rule < 3; rule++) {
            add(told, x.accepts(rule));
        }
    }

    private static void addReport(StringBuilder told, CardTabulator x) {
        for (int line = 0; line < x.told(1); line++) {
            for (int what = 0; what < 9; what++) {
                add(told, x.line(line, what));
            }
        }
        for (int i = 0; i < 3; i++) {
            add(told, x.reason(i), x.differs(i), x.ranked(i, 2), x.ranked(i, 3));
        }
        for (int what = 0; what < 5; what++) {
            add(told, x.again(-1, what));
        }
        told.append(x.mean());
    }

    /** What can be undone, down to the oldest state that is kept. */
    private static String past(CardTabulator x) {
        StringBuilder told = new StringBuilder();
        for (int i = 0; i < 10; i++) {
            add(told, x.undo(), x.told(0), x.told(1), x.told(2), x.setting(3), x.field(1, 0));
            add(told, x.card(0, 2), x.card(1, 2), x.card(2, 2), x.card(2, 7), x.card(2, 8));
            add(told, x.differs(0), x.differs(1), x.reason(0), x.line(1, 6));
        }
        return told.toString();
    }

    private static String image(CardTabulator x, int i) {
        int cards = x.back(i);
        return cards + " " + present(x);
    }

    /** A text can be told by what is punched from it. */
    private static String textAndControls(CardTabulator x) {
        StringBuilder told = new StringBuilder();
        for (int which = 0; which < 3; which++) {
            add(told, x.control(which, 0));
        }
        add(told, x.told(5), x.take(0), x.punch(0), x.fault(0), x.fault(1));
        if (x.told(0) > 0) {
            told.append(Check.columns(x, 0)).append(' ');
        }
        add(told, x.wipe());
        return told.toString();
    }

    private static void add(StringBuilder told, int... numbers) {
        for (int number : numbers) {
            told.append(number).append(' ');
        }
    }
}
