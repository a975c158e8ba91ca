import java.util.ArrayDeque;

/**
 * Boundary cases of the term CHANGES, and of promises 13, 17 (6), 31 and 32: what is recorded, how
 * much of it is kept, what undo restores, and images.
 */
public final class ChangesEdgesTest {
    private static final int BAD = CardTabulator.BAD, STATE = CardTabulator.STATE;
    private static final int NONE = CardTabulator.NONE;
    private static final Check CHECK = new Check();

    public static void main(String[] args) {
        nothingToUndo();
        eightStates();
        theNinthDropsTheOldest();
        roundTheHistory();
        changesThatChangeNothing();
        whatIsNoChange();
        undoRestoresFields();
        undoRestoresSettingsAndControls();
        undoRestoresCards();
        undoRestoresTheDeck();
        undoRestoresTheReport();
        undoOfAFullDeck();
        undoLeavesTextFaultAndImages();
        theReportStays();
        keepAsks();
        backAsks();
        keepIsNoChange();
        keepReplaces();
        imagesAreApart();
        backMakesAllPresent();
        backLeavesTextFaultAndHistory();
        backIsAChange();
        backWithAFullHistory();
        imagesOfNoCardsAndForty();
        CHECK.end("ChangesEdgesTest");
    }

    // ---- Promise 13

    private static void nothingToUndo() {
        CHECK.under("Promise 13: STATE if there is none");
        CardTabulator x = new CardTabulator();
        CHECK.due("undo()", x.undo(), STATE);
        CHECK.due("told(6)", x.told(6), 0);
        x.set(0, 0);
        CHECK.due("undo() of one", x.undo(), 0);
        CHECK.due("undo() of none again", x.undo(), STATE);
        CHECK.due("setting(0)", x.setting(0), 1);
    }

    private static void eightStates() {
        CHECK.under("CHANGES: a history of at most 8 states is kept");
        CardTabulator x = new CardTabulator();
        for (int i = 1; i <= 8; i++) {
            x.set(3, i);
            CHECK.due("told(6) behind " + i + " changes", x.told(6), i);
        }
        for (int i = 7; i >= 0; i--) {
            CHECK.due("undo()", x.undo(), i);
            CHECK.due("setting(3)", x.setting(3), i == 0 ? 400 : i);
            CHECK.due("told(6)", x.told(6), i);
        }
        CHECK.due("undo() of a ninth", x.undo(), STATE);
    }

    private static void theNinthDropsTheOldest() {
        CHECK.under("CHANGES: if there are more than 8, the oldest one is dropped");
        CardTabulator x = new CardTabulator();
        for (int i = 1; i <= 9; i++) {
            x.set(3, i);
        }
        CHECK.due("told(6) behind 9 changes", x.told(6), 8);
        for (int i = 8; i >= 1; i--) {
            CHECK.due("undo()", x.undo(), i - 1);
            CHECK.due("setting(3)", x.setting(3), i);
        }
        CHECK.due("undo() of a ninth", x.undo(), STATE);
        CHECK.due("setting(3) of the oldest that is kept", x.setting(3), 1);
    }

    /** Changes and undos in turns, many times round a history of eight. */
    private static void roundTheHistory() {
        CHECK.under("CHANGES, Promise 13: undo removes the latest state, and changes are recorded behind the others");
        CardTabulator x = new CardTabulator();
        ArrayDeque<Integer> kept = new ArrayDeque<>();
        int now = 400;
        for (int i = 1; i <= 120; i++) {
            // Up to ten changes and up to twelve undos at a time.
            boolean undone = i * i % 23 > 11;
            if (undone && kept.isEmpty()) {
                CHECK.due("undo() of none in step " + i, x.undo(), STATE);
            } else if (undone) {
                now = kept.removeLast();
                CHECK.due("undo() in step " + i, x.undo(), kept.size());
            } else {
                CHECK.due("set(3, " + i + ")", x.set(3, i), now);
                kept.addLast(now);
                now = i;
                if (kept.size() > 8) {
                    kept.removeFirst();
                }
            }
            CHECK.due("setting(3) in step " + i, x.setting(3), now);
            CHECK.due("told(6) in step " + i, x.told(6), kept.size());
        }
    }

    private static int changeNothing(CardTabulator x, int kind) {
        switch (kind) {
            case 0: return x.lay(2, 4, 3);
            case 1: return x.set(1, 1);
            case 2: return x.control(0, NONE);
            case 3: return x.move(0, 0);
            case 4: return x.repunch(0, 4, 0);
            case 5: return x.repunch(0, 0, NONE);
            case 6: return x.mark(0, 0, 0);
            case 7: return x.pass(0);
            case 8: return x.sort(0);
            case 9: return x.run();
            default: return x.back(0);
        }
    }

    private static void changesThatChangeNothing() {
        CHECK.under("CHANGES: a method that is called a change is one also if it changes nothing");
        int[] answers = {4, 1, NONE, 0, 0, NONE, 0, 0, 0, 0, 1};
        for (int kind = 0; kind < answers.length; kind++) {
            CardTabulator x = Check.deckOf("w1");
            x.run();
            x.keep(0);
            CHECK.due("answer of the change " + kind, changeNothing(x, kind), answers[kind]);
            CHECK.due("told(6) behind the change " + kind, x.told(6), 3);
            CHECK.due("undo() of the change " + kind, x.undo(), 2);
            CHECK.due("told(1)", x.told(1), 1);
            CHECK.due("undo() of the run", x.undo(), 1);
            CHECK.due("told(1)", x.told(1), 0);
        }
    }

    private static void whatIsNoChange() {
        CHECK.under("CHANGES: other methods, and changes that return an error code, record nothing");
        CardTabulator x = Check.deckOf("w1");
        x.write('?');
        x.punch(0);
        x.punch(2);
        x.wipe();
        x.keep(0);
        x.keep(1);
        x.keep(2);
        x.back(2);
        x.lay(6, 0, 1);
        x.set(0, 3);
        x.control(0, -1);
        x.take(1);
        x.move(0, 1);
        x.repunch(0, 24, 0);
        x.mark(0, 4, 0);
        x.pass(24);
        x.sort(6);
        x.passes();
        x.accepts(0);
        x.agrees();
        x.mean();
        CHECK.due("told(6)", x.told(6), 1);
        CHECK.due("undo() of the punch", x.undo(), 0);
        CHECK.due("told(6): undo is no change itself", x.told(6), 0);
    }

    // ---- what undo restores

    private static void undoRestoresFields() {
        CHECK.under("Promise 13: undo restores the fields");
        for (int field = 0; field < 6; field++) {
            CardTabulator x = new CardTabulator();
            int first = x.field(field, 0);
            int width = x.field(field, 1);
            x.lay(field, 23, 1);
            CHECK.due("undo()", x.undo(), 0);
            CHECK.due("field(" + field + ", 0)", x.field(field, 0), first);
            CHECK.due("field(" + field + ", 1)", x.field(field, 1), width);
        }
    }

    private static void undoRestoresSettingsAndControls() {
        CHECK.under("Promise 13: undo restores the settings and the control totals");
        int[] first = {1, 1, 999, 400};
        for (int i = 0; i < 4; i++) {
            CardTabulator x = new CardTabulator();
            x.set(i, 0);
            x.undo();
            CHECK.due("setting(" + i + ")", x.setting(i), first[i]);
        }
        for (int which = 0; which < 3; which++) {
            CardTabulator x = new CardTabulator();
            x.control(which, 7);
            x.control(which, NONE);
            x.control(which, 9);
            x.undo();
            CHECK.due("control(" + which + ", 1)", x.control(which, 1), NONE);
            x.undo();
            x.undo();
            CHECK.due("control(" + which + ", 2)", x.control(which, 2), 7);
            x.undo();
            x.undo();
            CHECK.due("control(" + which + ", 3) of the first", x.control(which, 3), NONE);
        }
    }

    private static void undoRestoresCards() {
        CHECK.under("Promise 13: undo restores columns, marks and torn columns");
        CardTabulator x = Check.deckOf("d1 g2 w3 h4 r5");
        for (int column = 0; column < 24; column++) {
            int was = x.column(0, column);
            x.repunch(0, column, was == 9 ? 8 : 9);
            x.undo();
            CHECK.due("column(0, " + column + ")", x.column(0, column), was);
        }
        x.repunch(0, 0, NONE);
        x.undo();
        CHECK.due("column(0, 0) that was blank in between", x.column(0, 0), 0);
        x.mark(0, 3, 23);
        x.mark(0, 2, 5);
        x.undo();
        CHECK.due("card(0, 7)", x.card(0, 7), 3);
        CHECK.due("card(0, 8)", x.card(0, 8), 23);
        x.undo();
        CHECK.due("card(0, 7)", x.card(0, 7), 0);
        CHECK.due("card(0, 8)", x.card(0, 8), 0);
    }

    private static void undoRestoresTheDeck() {
        CHECK.under("Promise 13: undo restores the cards and their order");
        CardTabulator x = Check.deckOf("w31", "w12", "w23");
        x.take(1);
        x.undo();
        CHECK.dueWorkers("undo() of take", x, "31 12 23");
        x.punch(0);
        x.undo();
        CHECK.dueWorkers("undo() of punch", x, "31 12 23");
        x.move(0, 2);
        x.undo();
        CHECK.dueWorkers("undo() of move", x, "31 12 23");
        x.pass(6);
        x.undo();
        CHECK.dueWorkers("undo() of pass", x, "31 12 23");
        x.sort(2);
        x.undo();
        CHECK.dueWorkers("undo() of sort", x, "31 12 23");
        x.take(0);
        x.take(0);
        x.take(0);
        x.undo();
        x.undo();
        x.undo();
        CHECK.dueWorkers("undo() of three takes", x, "31 12 23");
        x.undo();
        x.undo();
        x.undo();
        CHECK.due("told(0) of the beginning", x.told(0), 0);
        CHECK.due("take(0) of the beginning", x.take(0), BAD);
    }

    private static void undoRestoresTheReport() {
        CHECK.under("CHANGES: the report belongs to the state");
        CardTabulator x = Check.deckOf("d1 g1 w1 h20 r20", "d1 g1 w2 h10 r20");
        x.control(1, 0);
        x.set(3, 10);
        x.run();
        x.mark(0, 1, 0);
        x.set(3, 0);
        x.run();
        CHECK.due("told(1)", x.told(1), 5);
        CHECK.due("reason(0)", x.reason(0), 1);
        CHECK.due("again(-1, 3)", x.again(-1, 3), 10);
        CHECK.due("differs(1)", x.differs(1), 10);
        x.undo();
        CHECK.due("told(1) behind undo", x.told(1), 7);
        CHECK.due("told(2) behind undo", x.told(2), 2);
        CHECK.due("told(3) behind undo", x.told(3), 0);
        CHECK.due("reason(0) behind undo", x.reason(0), 0);
        CHECK.due("again(-1, 3) behind undo", x.again(-1, 3), 10);
        CHECK.due("again(-1, 4) behind undo", x.again(-1, 4), 2);
        CHECK.due("differs(1) behind undo", x.differs(1), 30);
        CHECK.dueLine(x, 6, 4, NONE, NONE, NONE, 2, 30, 70, 10, NONE);
        CHECK.dueFloat("mean() behind undo", x.mean(), 700f / 30f);
        x.undo();
        x.undo();
        CHECK.due("told(1) behind undo of set and mark", x.told(1), 7);
        x.undo();
        CHECK.due("told(1) behind undo of the first run", x.told(1), 0);
        CHECK.due("told(2) behind undo of the first run", x.told(2), NONE);
        CHECK.due("told(3) behind undo of the first run", x.told(3), 0);
        CHECK.due("reason(0) behind undo of the first run", x.reason(0), BAD);
        CHECK.due("line(0, 0) behind undo of the first run", x.line(0, 0), BAD);
        CHECK.due("differs(1) behind undo of the first run", x.differs(1), NONE);
        CHECK.due("ranked(0, 0) behind undo of the first run", x.ranked(0, 0), NONE);
        CHECK.dueFloat("mean() behind undo of the first run", x.mean(), 0.0f);
    }

    private static void undoOfAFullDeck() {
        CHECK.under("Promise 13: of 40 cards");
        CardTabulator x = new CardTabulator();
        Check.type(x, "w1");
        for (int i = 0; i < 40; i++) {
            x.punch(i);
        }
        x.repunch(39, 4, 7);
        x.take(0);
        for (int i = 0; i < 6; i++) {
            x.take(38 - i);
        }
        CHECK.due("told(0)", x.told(0), 33);
        for (int i = 0; i < 7; i++) {
            CHECK.due("undo()", x.undo(), 7 - i);
        }
        CHECK.due("told(0)", x.told(0), 40);
        CHECK.due("column(39, 4)", x.column(39, 4), 7);
        CHECK.due("column(38, 4)", x.column(38, 4), 0);
        x.undo();
        CHECK.due("column(39, 4) before it was punched anew", x.column(39, 4), 0);
        CHECK.due("told(6): the punches were dropped", x.told(6), 0);
    }

    private static void undoLeavesTextFaultAndImages() {
        CHECK.under("CHANGES: everything, except the text, the latest fault and the images");
        CardTabulator x = Check.deckOf("w1");
        x.set(3, 5);
        Check.type(x, "w9 ?");
        CHECK.due("punch(0)", x.punch(0), STATE);
        x.keep(0);
        CHECK.due("undo()", x.undo(), 1);
        CHECK.due("told(5) behind undo", x.told(5), 4);
        CHECK.due("fault(0) behind undo", x.fault(0), 1);
        CHECK.due("fault(1) behind undo", x.fault(1), 3);
        CHECK.due("undo()", x.undo(), 0);
        CHECK.due("told(5) behind undo", x.told(5), 4);
        CHECK.due("back(0) behind undo", x.back(0), 1);
        CHECK.due("setting(3) of the image", x.setting(3), 5);
        x.wipe();
        x.undo();
        CHECK.due("told(5): what was wiped does not come again", x.told(5), 0);
        CHECK.under("CHANGES: images that are replaced behind a change stay so when it is undone");
        CardTabulator y = new CardTabulator();
        y.keep(1);
        y.set(3, 1);
        y.keep(1);
        y.undo();
        y.back(1);
        CHECK.due("setting(3)", y.setting(3), 1);
    }

    private static void theReportStays() {
        CHECK.under("CHANGES: the report stays what the latest run has made of it, also if cards change behind it");
        CardTabulator x = Check.deckOf("d1 g1 w1 h20 r20", "d1");
        x.control(2, 0);
        x.run();
        x.repunch(0, 6, 9);
        x.lay(0, 20, 1);
        x.set(0, 0);
        x.set(3, 0);
        x.mark(1, 1, 0);
        Check.type(x, "w7");
        x.punch(0);
        x.sort(2);
        x.take(0);
        x.take(0);
        x.take(0);
        CHECK.due("told(1)", x.told(1), 5);
        CHECK.due("told(2)", x.told(2), 1);
        CHECK.due("told(3)", x.told(3), 1);
        CHECK.dueLine(x, 0, 0, 1, 1, 1, 1, 20, 40, 0, 0);
        CHECK.dueLine(x, 4, 4, NONE, NONE, NONE, 1, 20, 40, 0, NONE);
        CHECK.due("reason(0)", x.reason(0), 0);
        CHECK.due("reason(1)", x.reason(1), 2);
        CHECK.due("reason(2)", x.reason(2), BAD);
        CHECK.due("differs(2)", x.differs(2), 1);
        CHECK.due("again(1, 2)", x.again(1, 2), 40);
        CHECK.due("ranked(0, 2)", x.ranked(0, 2), 1);
        CHECK.dueFloat("mean()", x.mean(), 20.0f);
    }

    // ---- Promises 31 and 32

    private static void keepAsks() {
        CHECK.under("Promise 31: the image is 0 or 1; BAD if there is no such image");
        CardTabulator x = Check.deckOf("w1", "w2");
        for (int i : new int[] {-1, 2, NONE, Integer.MIN_VALUE, Integer.MAX_VALUE}) {
            CHECK.due("keep(" + i + ")", x.keep(i), BAD);
            CHECK.due("back(" + i + ")", x.back(i), BAD);
        }
        CHECK.due("back(0): nothing was kept", x.back(0), STATE);
        CHECK.due("back(1): nothing was kept", x.back(1), STATE);
        CHECK.due("keep(0)", x.keep(0), 2);
        CHECK.due("keep(1)", x.keep(1), 2);
    }

    private static void backAsks() {
        CHECK.under("Promise 32: STATE if nothing was kept in it");
        for (int i = 0; i < 2; i++) {
            CardTabulator x = new CardTabulator();
            CHECK.due("back(" + i + ")", x.back(i), STATE);
            x.keep(1 - i);
            CHECK.due("back(" + i + ") when the other one keeps a state", x.back(i), STATE);
            CHECK.due("told(6)", x.told(6), 0);
            x.keep(i);
            CHECK.due("back(" + i + ")", x.back(i), 0);
            CHECK.due("told(6)", x.told(6), 1);
            CHECK.due("undo()", x.undo(), 0);
            CHECK.due("back(" + i + ") behind undo", x.back(i), 0);
        }
    }

    private static void keepIsNoChange() {
        CHECK.under("Promise 31: this is no change");
        CardTabulator x = Check.deckOf("w1");
        x.keep(0);
        x.keep(1);
        CHECK.due("told(6)", x.told(6), 1);
        CHECK.due("undo() of the punch", x.undo(), 0);
        CHECK.due("told(0)", x.told(0), 0);
    }

    private static void keepReplaces() {
        CHECK.under("Promise 31: replacing what it kept before");
        CardTabulator x = Check.deckOf("w1", "w2", "w3");
        x.keep(0);
        x.take(0);
        CHECK.due("keep(0) anew", x.keep(0), 2);
        x.take(0);
        CHECK.due("back(0)", x.back(0), 2);
        CHECK.dueWorkers("back(0)", x, "2 3");
        Check.punchAll(x, "w4", "w5");
        CHECK.due("keep(0) of more cards", x.keep(0), 4);
        x.take(0);
        CHECK.due("back(0)", x.back(0), 4);
        CHECK.dueWorkers("back(0)", x, "2 3 4 5");
    }

    private static void imagesAreApart() {
        CHECK.under("Promise 32: the image stays");
        CardTabulator x = Check.deckOf("w1");
        x.keep(0);
        x.repunch(0, 6, 2);
        x.keep(1);
        x.repunch(0, 6, 3);
        for (int round = 0; round < 2; round++) {
            CHECK.due("back(0)", x.back(0), 1);
            CHECK.dueWorkers("back(0)", x, "1");
            x.repunch(0, 6, 9);
            x.mark(0, 1, 1);
            x.run();
            x.set(0, 0);
            CHECK.due("back(1)", x.back(1), 1);
            CHECK.dueWorkers("back(1)", x, "2");
            CHECK.due("told(1)", x.told(1), 0);
            CHECK.due("setting(0)", x.setting(0), 1);
            CHECK.due("card(0, 7)", x.card(0, 7), 0);
            x.repunch(0, 6, 8);
        }
    }

    private static void backMakesAllPresent() {
        CHECK.under("Promises 31 and 32: everything is kept, and made the present state");
        CardTabulator x = Check.deckOf("d1 g1 w1 h20 r20", "d1");
        x.lay(1, 20, 3);
        x.lay(1, 2, 2);
        x.control(0, 3);
        x.mark(1, 3, 22);
        x.set(3, 10);
        x.run();
        x.set(3, 8);
        x.keep(1);
        for (int i = 0; i < 4; i++) {
            x.set(i, 1);
        }
        for (int field = 0; field < 6; field++) {
            x.lay(field, 17, 1);
        }
        x.control(0, NONE);
        x.control(1, 5);
        x.mark(1, 0, 0);
        x.repunch(0, 5, 9);
        x.move(0, 1);
        x.run();
        CHECK.due("back(1)", x.back(1), 2);
        int[] settings = {1, 1, 999, 8};
        for (int i = 0; i < 4; i++) {
            CHECK.due("setting(" + i + ")", x.setting(i), settings[i]);
        }
        int[][] fields = {{0, 2}, {2, 2}, {4, 3}, {7, 3}, {10, 4}, {14, 1}};
        for (int field = 0; field < 6; field++) {
            CHECK.due("field(" + field + ", 0)", x.field(field, 0), fields[field][0]);
            CHECK.due("field(" + field + ", 1)", x.field(field, 1), fields[field][1]);
        }
        CHECK.dueColumns("back", x, 0, "010100102000203");
        CHECK.due("card(1, 7)", x.card(1, 7), 3);
        CHECK.due("card(1, 8)", x.card(1, 8), 22);
        CHECK.due("told(1)", x.told(1), 5);
        CHECK.due("reason(1)", x.reason(1), 2);
        CHECK.due("differs(0)", x.differs(0), -2);
        CHECK.due("differs(1)", x.differs(1), NONE);
        CHECK.due("again(-1, 3) by the limit of that run", x.again(-1, 3), 10);
        CHECK.dueLine(x, 4, 4, NONE, NONE, NONE, 1, 20, 50, 10, NONE);
    }

    private static void backLeavesTextFaultAndHistory() {
        CHECK.under("Promise 31: except the text, the latest fault, the images and what can be undone");
        CardTabulator x = Check.deckOf("w1");
        x.keep(0);
        x.set(3, 1);
        x.set(3, 2);
        Check.type(x, "w9 ?");
        x.punch(0);
        x.keep(1);
        CHECK.due("back(0)", x.back(0), 1);
        CHECK.due("told(5)", x.told(5), 4);
        CHECK.due("fault(0)", x.fault(0), 1);
        CHECK.due("fault(1)", x.fault(1), 3);
        CHECK.due("told(6)", x.told(6), 4);
        CHECK.due("back(1): the other image stays", x.back(1), 1);
        CHECK.due("setting(3)", x.setting(3), 2);
        int[] settings = {400, 2, 1, 400, 400};
        for (int i = 0; i < 5; i++) {
            CHECK.due("undo()", x.undo(), 4 - i);
            CHECK.due("setting(3) behind undo " + i, x.setting(3), settings[i]);
        }
        CHECK.due("told(0) of the beginning", x.told(0), 0);
    }

    private static void backIsAChange() {
        CHECK.under("Promise 32: this is a change, recorded behind those that are recorded already");
        CardTabulator x = new CardTabulator();
        x.keep(0);
        x.set(3, 1);
        x.back(0);
        CHECK.due("told(6)", x.told(6), 2);
        CHECK.due("setting(3)", x.setting(3), 400);
        CHECK.due("undo() of back", x.undo(), 1);
        CHECK.due("setting(3)", x.setting(3), 1);
        CHECK.due("undo() of set", x.undo(), 0);
        CHECK.due("setting(3)", x.setting(3), 400);
    }

    private static void backWithAFullHistory() {
        CHECK.under("Promise 32, CHANGES: with 8 states the oldest one is dropped");
        CardTabulator x = new CardTabulator();
        x.keep(0);
        for (int i = 1; i <= 8; i++) {
            x.set(3, i);
        }
        CHECK.due("back(0)", x.back(0), 0);
        CHECK.due("told(6)", x.told(6), 8);
        for (int i = 8; i >= 1; i--) {
            x.undo();
            CHECK.due("setting(3)", x.setting(3), i);
        }
        CHECK.due("undo()", x.undo(), STATE);
        x.back(0);
        CHECK.due("setting(3): the image stays", x.setting(3), 400);
    }

    private static void imagesOfNoCardsAndForty() {
        CHECK.under("Promises 31 and 32: of no cards and of 40");
        CardTabulator x = new CardTabulator();
        CHECK.due("keep(0) of no cards", x.keep(0), 0);
        Check.type(x, "w1");
        for (int i = 0; i < 40; i++) {
            x.punch(i);
        }
        x.repunch(39, 6, 5);
        CHECK.due("keep(1) of 40", x.keep(1), 40);
        CHECK.due("back(0)", x.back(0), 0);
        CHECK.due("take(0)", x.take(0), BAD);
        CHECK.due("punch(0)", x.punch(0), 1);
        CHECK.due("back(1)", x.back(1), 40);
        CHECK.due("card(39, 2)", x.card(39, 2), 5);
        CHECK.due("card(38, 2)", x.card(38, 2), 1);
        CHECK.due("punch(0) of a 41st", x.punch(0), CardTabulator.FULL);
    }
}
