/**
 * Boundary cases of the terms THE REPORT and CONTROL TOTALS, and of promises 4, 22 and 24 to 28:
 * breaks, overtime, lines, control totals, the second way, ranks and the mean.
 */
public final class ReportEdgesTest {
    private static final int BAD = CardTabulator.BAD, NONE = CardTabulator.NONE;
    private static final int[] ODD = {NONE, BAD, Integer.MIN_VALUE, Integer.MAX_VALUE};
    private static final Check CHECK = new Check();

    public static void main(String[] args) {
        breaksByWhatDiffers();
        breaksLookAtAcceptedCards();
        totalsSinceTheBreak();
        breaksBehindTheLastCard();
        noAcceptedCard();
        longestReport();
        hoursAtTheLimit();
        overtimeOfManyCards();
        rateOfTheLatestCard();
        overtimeGoesToAllLevels();
        leastAndGreatestLimits();
        greatestNumbers();
        lineAsks();
        numbersOfLines();
        controlRange();
        controlsOfAcceptedCards();
        differsAsks();
        greatestDifferences();
        againAsks();
        againByKeys();
        againByTheRun();
        theLastLineIsForAll();
        agreesOrNot();
        rankedAsks();
        rankedTies();
        rankedFortyKeys();
        meanOfNoHours();
        meanOfTheLastLine();
        meanAsFloat();
        CHECK.end("ReportEdgesTest");
    }

    /** Runs cards of these keys with one hour and the rate 1, by no sequence rule. */
    private static CardTabulator runOf(String... keys) {
        CardTabulator x = new CardTabulator();
        x.set(0, 0);
        for (String key : keys) {
            Check.punchAll(x, key + " h1 r10");
        }
        x.run();
        return x;
    }

    private static void dueKinds(String want, String... keys) {
        CHECK.dueText("kinds of lines of " + String.join(", ", keys), Check.kinds(runOf(keys)), want);
    }

    // ---- breaks

    private static void breaksByWhatDiffers() {
        CHECK.under("THE REPORT: if the key differs, breaks of the worker, of the group, of the department");
        dueKinds("001234", "d1 g1 w1", "d1 g1 w1");
        dueKinds("0101234", "d1 g1 w1", "d1 g1 w2");
        dueKinds("0101234", "d1 g1 w2", "d1 g1 w1");
        dueKinds("01201234", "d1 g1 w1", "d1 g2 w1");
        dueKinds("01201234", "d1 g1 w1", "d1 g2 w2");
        dueKinds("012301234", "d1 g1 w1", "d2 g1 w1");
        dueKinds("012301234", "d1 g1 w1", "d2 g1 w2");
        dueKinds("012301234", "d1 g1 w1", "d2 g2 w1");
        dueKinds("012301234", "d1 g1 w1", "d2 g2 w2");
        dueKinds("012301234", "d0 g0 w1", "d1 g0 w1");
        dueKinds("01234", "d0 g0 w0");
    }

    private static void breaksLookAtAcceptedCards() {
        CHECK.under("THE REPORT: the key differs from that of the accepted card before it");
        CardTabulator x = Check.deckOf("d1 g1 w1 h1 r1", "d2 g2 w2 h1 r1", "d1 g1 w1 h1 r1", "d1 g1");
        x.mark(1, 1, 0);
        CHECK.due("run()", x.run(), 2);
        CHECK.dueText("kinds of lines", Check.kinds(x), "001234");
        CHECK.dueLine(x, 2, 1, 1, 1, 1, 2, 2, 0, 0, NONE);
        CHECK.under("THE REPORT: in the order in which they are printed, the breaks before the card's own line");
        CardTabulator y = runOf("d1 g1 w1", "d2 g1 w1");
        CHECK.due("line(4, 1) of the second card", y.line(4, 1), 2);
        CHECK.due("line(3, 1) of the first department", y.line(3, 1), 1);
        CHECK.due("line(7, 1) of the second department", y.line(7, 1), 2);
    }

    private static void totalsSinceTheBreak() {
        CHECK.under("THE REPORT: the totals of this level since the break of this level before it, or the beginning");
        CardTabulator x = runOf("d1 g1 w1", "d1 g1 w2", "d1 g1 w1", "d1 g2 w1", "d1 g1 w1", "d2 g1 w1",
            "d1 g1 w1");
        CHECK.dueText("kinds of lines", Check.kinds(x), "0101012" + "012" + "0123" + "0123" + "01234");
        int[] lines = {1, 3, 5, 6, 8, 9, 11, 12, 13, 15, 16, 17, 19, 20, 21, 22};
        int[] cards = {1, 1, 1, 3, 1, 1, 1, 1, 5, 1, 1, 1, 1, 1, 1, 7};
        for (int i = 0; i < lines.length; i++) {
            CHECK.due("line(" + lines[i] + ", 4)", x.line(lines[i], 4), cards[i]);
            CHECK.due("line(" + lines[i] + ", 5)", x.line(lines[i], 5), cards[i]);
            CHECK.due("line(" + lines[i] + ", 6)", x.line(lines[i], 6), cards[i]);
        }
        CHECK.due("a second run prints the same: run()", x.run(), 7);
        CHECK.due("told(1)", x.told(1), 23);
        CHECK.dueLine(x, 22, 4, NONE, NONE, NONE, 7, 7, 7, 0, NONE);
        CHECK.dueLine(x, 1, 1, 1, 1, 1, 1, 1, 1, 0, NONE);
    }

    private static void breaksBehindTheLastCard() {
        CHECK.under("THE REPORT: behind the last card breaks are made, and a last line for all is printed");
        CardTabulator x = Check.deckOf("d1 g2 w3 h4 r5", "d1", "w1");
        CHECK.due("run()", x.run(), 1);
        CHECK.dueLine(x, 0, 0, 1, 2, 3, 1, 4, 2, 0, 0);
        CHECK.dueLine(x, 1, 1, 1, 2, 3, 1, 4, 2, 0, NONE);
        CHECK.dueLine(x, 2, 2, 1, 2, NONE, 1, 4, 2, 0, NONE);
        CHECK.dueLine(x, 3, 3, 1, NONE, NONE, 1, 4, 2, 0, NONE);
        CHECK.dueLine(x, 4, 4, NONE, NONE, NONE, 1, 4, 2, 0, NONE);
        CHECK.due("told(1)", x.told(1), 5);
    }

    private static void noAcceptedCard() {
        CHECK.under("THE REPORT: if no card was accepted, only the last line is printed, with 0 in all its numbers");
        CardTabulator x = Check.deckOf("d1 g1 w1 h500 r100", "w1");
        x.run();
        x.mark(0, 1, 0);
        x.set(3, 0);
        CHECK.due("run()", x.run(), 0);
        CHECK.due("told(1)", x.told(1), 1);
        CHECK.dueLine(x, 0, 4, NONE, NONE, NONE, 0, 0, 0, 0, NONE);
        CHECK.due("line(1, 0)", x.line(1, 0), BAD);
        CHECK.due("told(2)", x.told(2), 0);
        CHECK.due("told(3)", x.told(3), 2);
    }

    private static void longestReport() {
        CHECK.under("THE REPORT: 40 cards with all breaks between them are 161 lines");
        CardTabulator x = new CardTabulator();
        x.set(0, 0);
        x.set(3, 0);
        Check.type(x, "d1 g1 w1 h10 r20");
        for (int i = 0; i < 40; i++) {
            x.punch(i);
        }
        for (int i = 0; i < 40; i += 2) {
            x.repunch(i, 1, 2);
            x.repunch(i, 14, x.card(i, 6));
        }
        CHECK.due("run()", x.run(), 40);
        CHECK.due("told(1)", x.told(1), 161);
        // Each card: wage 20, overtime 10.
        CHECK.dueLine(x, 156, 0, 1, 1, 1, 1, 10, 20, 0, 39);
        CHECK.dueLine(x, 157, 1, 1, 1, 1, 1, 10, 30, 10, NONE);
        CHECK.dueLine(x, 158, 2, 1, 1, NONE, 1, 10, 30, 10, NONE);
        CHECK.dueLine(x, 159, 3, 1, NONE, NONE, 1, 10, 30, 10, NONE);
        CHECK.dueLine(x, 160, 4, NONE, NONE, NONE, 40, 400, 1200, 400, NONE);
        CHECK.due("line(161, 0)", x.line(161, 0), BAD);
        CHECK.due("again(-1, 4)", x.again(-1, 4), 2);
        x.keep(0);
        x.take(0);
        x.run();
        CHECK.due("told(1) of 39 cards", x.told(1), 157);
        x.back(0);
        CHECK.dueLine(x, 160, 4, NONE, NONE, NONE, 40, 400, 1200, 400, NONE);
        x.undo();
        x.undo();
        CHECK.due("told(1) behind undo", x.told(1), 161);
        CHECK.dueLine(x, 160, 4, NONE, NONE, NONE, 40, 400, 1200, 400, NONE);
    }

    // ---- overtime

    private static void hoursAtTheLimit() {
        CHECK.under("THE REPORT: if the hours of the worker are more than the limit");
        int[][] due = {{399, 400, 0}, {400, 400, 0}, {401, 400, 1}, {402, 400, 2}, {0, 0, 0}, {1, 0, 1},
            {1, 1, 0}, {999, 998, 1}, {999, 999, 0}, {999, 9999, 0}};
        for (int[] a : due) {
            CardTabulator x = Check.deckOf("d1 g1 w1 h" + a[0] + " r20");
            x.set(3, a[1]);
            x.run();
            int wage = a[0] * 2;
            CHECK.dueLine(x, 0, 0, 1, 1, 1, 1, a[0], wage, 0, 0);
            for (int line = 1; line <= 4; line++) {
                CHECK.due(a[0] + " hours by the limit " + a[1] + ": line(" + line + ", 7)",
                    x.line(line, 7), a[2]);
                CHECK.due(a[0] + " hours by the limit " + a[1] + ": line(" + line + ", 6)",
                    x.line(line, 6), wage + a[2]);
            }
            CHECK.due("again(-1, 3)", x.again(-1, 3), a[2]);
        }
    }

    private static void overtimeOfManyCards() {
        CHECK.under("THE REPORT: the hours of the worker since the break, of all its cards");
        CardTabulator x = Check.deckOf("d1 g1 w1 h200 r20", "d1 g1 w1 h200 r20", "d1 g1 w2 h399 r20");
        x.run();
        CHECK.due("200 and 200 by the limit 400: line(2, 7)", x.line(2, 7), 0);
        x.set(3, 399);
        x.run();
        CHECK.due("200 and 200 by the limit 399: line(2, 7)", x.line(2, 7), 1);
        CHECK.due("the next worker begins anew: line(4, 7)", x.line(4, 7), 0);
        CHECK.due("the group: line(5, 7)", x.line(5, 7), 1);
    }

    private static void rateOfTheLatestCard() {
        CHECK.under("THE REPORT: the rate of the latest card of this worker");
        CardTabulator x = Check.deckOf("d1 g1 w1 h10 r9999", "d1 g1 w1 h10 r20", "d1 g1 w2 h10 r9999");
        x.set(3, 10);
        x.run();
        CHECK.due("line(2, 7)", x.line(2, 7), 10);
        CHECK.due("again(-1, 3)", x.again(-1, 3), 10);
        CardTabulator y = Check.deckOf("d1 g1 w1 h10 r20", "d1 g1 w1 h10 r9999");
        y.set(3, 10);
        y.mark(1, 1, 0);
        y.run();
        CHECK.due("line(1, 7) with the second card skipped", y.line(1, 7), 0);
        y.set(3, 0);
        y.run();
        CHECK.due("line(1, 7) by the accepted card", y.line(1, 7), 10);
    }

    private static void overtimeGoesToAllLevels() {
        CHECK.under("THE REPORT: overtime is added to the wages of the line, of the group, of the department, and of all");
        CardTabulator x = Check.deckOf("d1 g1 w1 h20 r100", "d1 g1 w2 h20 r100", "d1 g2 w1 h20 r100",
            "d2 g1 w1 h20 r100");
        x.set(3, 10);
        x.run();
        CHECK.dueText("kinds of lines", Check.kinds(x), "01012012301234");
        int[] lines = {1, 3, 4, 6, 7, 8, 10, 11, 12, 13};
        int[] workers = {1, 1, 2, 1, 1, 3, 1, 1, 1, 4};
        for (int i = 0; i < lines.length; i++) {
            CHECK.due("line(" + lines[i] + ", 7)", x.line(lines[i], 7), 50 * workers[i]);
            CHECK.due("line(" + lines[i] + ", 6)", x.line(lines[i], 6), 250 * workers[i]);
        }
        CHECK.due("line(0, 7) of a card", x.line(0, 7), 0);
        CHECK.due("line(0, 6) of a card", x.line(0, 6), 200);
    }

    private static void leastAndGreatestLimits() {
        CHECK.under("RUNNING, THE REPORT: the limits 0 and 9999");
        CardTabulator x = new CardTabulator();
        x.lay(3, 15, 4);
        x.set(2, 9999);
        x.set(3, 9999);
        Check.punchAll(x, "d1 g1 w1 h9999 r20", "d1 g1 w1 h1 r20");
        x.run();
        CHECK.due("10000 hours by the limit 9999: line(2, 7)", x.line(2, 7), 1);
        x.take(1);
        x.run();
        CHECK.due("9999 hours by the limit 9999: line(1, 7)", x.line(1, 7), 0);
        x.set(3, 0);
        x.run();
        CHECK.due("9999 hours by the limit 0: line(1, 7)", x.line(1, 7), 9999);
    }

    /** Forty times the greatest hours and rate, of one worker or of all different ones. */
    private static CardTabulator greatestDeck() {
        CardTabulator x = new CardTabulator();
        x.lay(0, 0, 4);
        x.lay(1, 4, 4);
        x.lay(2, 8, 4);
        x.lay(3, 12, 4);
        x.lay(4, 16, 4);
        x.lay(5, 20, 1);
        x.set(2, 9999);
        x.set(3, 0);
        Check.type(x, "d9999 g9999 w9999 h9999 r9999");
        for (int i = 0; i < 40; i++) {
            x.punch(0);
        }
        return x;
    }

    private static void greatestNumbers() {
        CHECK.under("THE REPORT: the greatest hours, rates and numbers don't wrap around");
        CardTabulator x = greatestDeck();
        CHECK.due("run()", x.run(), 40);
        CHECK.due("a card's wage", x.line(0, 6), 9998000);
        // 399960 * 9999 is 3999200040, more than an int holds; a twentieth of it is the overtime.
        int overtime = 199960002;
        int wages = 399920000 + overtime;
        CHECK.dueLine(x, 40, 1, 9999, 9999, 9999, 40, 399960, wages, overtime, NONE);
        CHECK.due("line(43, 6)", x.line(43, 6), wages);
        CHECK.due("again(9999, 2)", x.again(9999, 2), wages);
        CHECK.due("again(-1, 3)", x.again(-1, 3), overtime);
        CHECK.due("ranked(0, 0)", x.ranked(0, 0), 9999);
        CHECK.due("ranked(0, 3)", x.ranked(0, 3), wages);
        CHECK.due("agrees()", x.agrees(), 1);
    }

    // ---- Promise 22

    private static void lineAsks() {
        CHECK.under("Promise 22: BAD if there is no such line or what is out of range");
        CardTabulator x = Check.deckOf("d1 g1 w1 h1 r1");
        CHECK.due("line(0, 0) before a run", x.line(0, 0), BAD);
        x.run();
        int[][] wrong = {{-1, 0}, {5, 0}, {0, -1}, {0, 9}, {4, 9}, {5, 9}, {-1, -1}, {161, 0}};
        for (int[] a : wrong) {
            CHECK.due("line(" + a[0] + ", " + a[1] + ")", x.line(a[0], a[1]), BAD);
        }
        for (int odd : ODD) {
            CHECK.due("line(" + odd + ", 0)", x.line(odd, 0), BAD);
            CHECK.due("line(0, " + odd + ")", x.line(0, odd), BAD);
        }
        // Numbers that would wrap around to a line's place if they were multiplied.
        for (int bits = 24; bits < 31; bits++) {
            CHECK.due("line(2^" + bits + ", 0)", x.line(1 << bits, 0), BAD);
        }
    }

    private static void numbersOfLines() {
        CHECK.under("Promise 22: numbers that do not belong to its kind are NONE; 0 is a number");
        CardTabulator x = Check.deckOf("d1", "d0 g0 w0 h0 r0");
        x.run();
        CHECK.dueLine(x, 0, 0, 0, 0, 0, 1, 0, 0, 0, 1);
        CHECK.dueLine(x, 1, 1, 0, 0, 0, 1, 0, 0, 0, NONE);
        CHECK.dueLine(x, 2, 2, 0, 0, NONE, 1, 0, 0, 0, NONE);
        CHECK.dueLine(x, 3, 3, 0, NONE, NONE, 1, 0, 0, 0, NONE);
        CHECK.dueLine(x, 4, 4, NONE, NONE, NONE, 1, 0, 0, 0, NONE);
        CHECK.under("Promise 22: 8 the card's number in the deck when it was run");
        x.move(1, 0);
        CHECK.due("line(0, 8) behind move", x.line(0, 8), 1);
        x.take(0);
        CHECK.due("line(0, 8) behind take", x.line(0, 8), 1);
    }

    // ---- CONTROL TOTALS, Promises 4 and 24

    private static void controlRange() {
        CHECK.under("CONTROL TOTALS, Promise 4: three of them, 0 to 1000000, or NONE; none is told at first");
        for (int which = 0; which < 3; which++) {
            CardTabulator x = new CardTabulator();
            CHECK.due("control(" + which + ", -1)", x.control(which, -1), BAD);
            CHECK.due("control(" + which + ", 1000001)", x.control(which, 1000001), BAD);
            CHECK.due("control(" + which + ", NONE + 1)", x.control(which, NONE + 1), BAD);
            CHECK.due("control(" + which + ", NONE - 1)", x.control(which, NONE - 1), BAD);
            CHECK.due("control(" + which + ", BAD)", x.control(which, BAD), BAD);
            CHECK.due("control(" + which + ", least)", x.control(which, Integer.MIN_VALUE), BAD);
            CHECK.due("control(" + which + ", most)", x.control(which, Integer.MAX_VALUE), BAD);
            CHECK.due("control(" + which + ", 0)", x.control(which, 0), NONE);
            CHECK.due("control(" + which + ", 1000000)", x.control(which, 1000000), 0);
            CHECK.due("control(" + which + ", NONE)", x.control(which, NONE), 1000000);
            CHECK.due("control(" + which + ", NONE) again", x.control(which, NONE), NONE);
            CHECK.due("control(" + which + ", 1)", x.control(which, 1), NONE);
            for (int other = 0; other < 3; other++) {
                CHECK.due("control(" + other + ", 5) behind them", x.control(other, 5),
                    other == which ? 1 : NONE);
            }
        }
        CHECK.under("Promise 4: BAD if which is out of range");
        CardTabulator x = new CardTabulator();
        for (int which : new int[] {-1, 3, NONE, Integer.MIN_VALUE, Integer.MAX_VALUE}) {
            CHECK.due("control(" + which + ", 0)", x.control(which, 0), BAD);
            CHECK.due("control(" + which + ", NONE)", x.control(which, NONE), BAD);
        }
    }

    private static void controlsOfAcceptedCards() {
        CHECK.under("CONTROL TOTALS, Promise 24: the number, the hours and the workers of the accepted cards");
        CardTabulator x = Check.deckOf("d1 g1 w5 h10 r1", "d1 g1 w5 h7 r1", "d1 g1 w4 h10 r1",
            "d1 g1 w999 h3 r1", "d1 g1 w999");
        for (int which = 0; which < 3; which++) {
            x.control(which, 0);
        }
        x.run();
        int[] due = {3, 20, 1009};
        for (int which = 0; which < 3; which++) {
            CHECK.due("differs(" + which + ")", x.differs(which), due[which]);
        }
        CHECK.under("Promise 24: of the latest run, also if cards change behind it");
        for (int i = 0; i < 4; i++) {
            x.take(0);
        }
        for (int which = 0; which < 3; which++) {
            CHECK.due("differs(" + which + ") behind take", x.differs(which), due[which]);
        }
        x.run();
        for (int which = 0; which < 3; which++) {
            CHECK.due("differs(" + which + ") of no accepted card", x.differs(which), 0);
        }
    }

    private static void differsAsks() {
        CHECK.under("Promise 24: NONE if none is told, or there was no run; BAD if which is out of range");
        CardTabulator x = Check.deckOf("d1 g1 w1 h1 r1");
        for (int which = 0; which < 3; which++) {
            CHECK.due("differs(" + which + ") of neither", x.differs(which), NONE);
            x.control(which, 0);
            CHECK.due("differs(" + which + ") without a run", x.differs(which), NONE);
        }
        x.control(1, NONE);
        x.run();
        CHECK.due("differs(0)", x.differs(0), 1);
        CHECK.due("differs(1) when none is told", x.differs(1), NONE);
        CHECK.due("differs(2)", x.differs(2), 1);
        CHECK.due("differs(-1)", x.differs(-1), BAD);
        CHECK.due("differs(3)", x.differs(3), BAD);
        for (int odd : ODD) {
            CHECK.due("differs(" + odd + ")", x.differs(odd), BAD);
        }
        CHECK.under("Promise 24: a total that is told behind the run is compared with it");
        x.control(1, 4);
        CHECK.due("differs(1)", x.differs(1), -3);
        x.undo();
        CHECK.due("differs(1) behind undo", x.differs(1), NONE);
    }

    private static void greatestDifferences() {
        CHECK.under("Promise 24: from the least to the greatest difference");
        CardTabulator x = greatestDeck();
        x.run();
        int[] due = {40, 399960, 399960};
        for (int which = 0; which < 3; which++) {
            x.control(which, 0);
            CHECK.due("differs(" + which + ") from 0", x.differs(which), due[which]);
            x.control(which, 1000000);
            CHECK.due("differs(" + which + ") from 1000000", x.differs(which), due[which] - 1000000);
            x.control(which, due[which]);
            CHECK.due("differs(" + which + ") from the same", x.differs(which), 0);
        }
    }

    // ---- Promises 25 and 26

    private static void againAsks() {
        CHECK.under("Promise 25: BAD if department is less than -1, or what is out of range; 0 if there was no run");
        CardTabulator x = Check.deckOf("d1 g1 w1 h1 r10");
        for (int round = 0; round < 2; round++) {
            int[][] wrong = {{-2, 0}, {-1, -1}, {-1, 5}, {0, -1}, {0, 5}, {-2, 5}, {NONE, 0},
                {Integer.MIN_VALUE, 0}, {0, Integer.MAX_VALUE}, {0, Integer.MIN_VALUE}};
            for (int[] a : wrong) {
                CHECK.due("again(" + a[0] + ", " + a[1] + ")", x.again(a[0], a[1]), BAD);
            }
            for (int what = 0; what <= 4; what++) {
                CHECK.due("again(-1, " + what + ")", x.again(-1, what), what == 3 ? 0 : round);
                CHECK.due("again(1, " + what + ")", x.again(1, what), what == 3 ? 0 : round);
                CHECK.due("again(0, " + what + ")", x.again(0, what), 0);
                CHECK.due("again(10000, " + what + ")", x.again(10000, what), 0);
                CHECK.due("again(most, " + what + ")", x.again(Integer.MAX_VALUE, what), 0);
            }
            x.run();
        }
        CardTabulator zero = Check.deckOf("d0 g1 w1 h1 r10");
        zero.run();
        CHECK.due("again(0, 0) of the department 0", zero.again(0, 0), 1);
        CHECK.due("again(1, 0) of another department", zero.again(1, 0), 0);
    }

    private static void againByKeys() {
        CHECK.under("Promise 25: for each different key all cards with this key together, wherever they were fed");
        CardTabulator x = Check.deckOf("d1 g1 w1 h300 r100", "d2 g1 w1 h300 r100", "d1 g1 w1 h300 r20",
            "d1 g2 w1 h100 r10", "d1 g1 w2 h101 r10", "d2 g1 w1 h100 r9999");
        x.set(0, 0);
        x.run();
        // d1 g1 w1: 3000 + 600 and 200 * 20 / 20; d2: 3000 + 99990, exactly at the limit.
        int[][] due = {{6, 1201, 3000 + 600 + 200 + 3000 + 99990 + 100 + 101, 200, 4},
            {0, 0, 0, 0, 0}, {4, 801, 3000 + 600 + 200 + 100 + 101, 200, 3}, {2, 400, 102990, 0, 1}};
        for (int department = -1; department <= 2; department++) {
            for (int what = 0; what <= 4; what++) {
                CHECK.due("again(" + department + ", " + what + ")", x.again(department, what),
                    due[department + 1][what]);
            }
        }
        CHECK.under("Promise 25: the rate of the one that was fed last");
        x.move(2, 0);
        x.run();
        CHECK.due("again(1, 3) with the rate 100", x.again(1, 3), 1000);
    }

    private static void againByTheRun() {
        CHECK.under("Promise 25: the limit that was set at the run; by the accepted cards of the latest run");
        CardTabulator x = Check.deckOf("d1 g1 w1 h500 r20", "d1 g1 w2 h1 r20");
        x.run();
        CHECK.due("again(-1, 3)", x.again(-1, 3), 100);
        x.set(3, 0);
        CHECK.due("again(-1, 3) behind set", x.again(-1, 3), 100);
        CHECK.due("again(-1, 2) behind set", x.again(-1, 2), 1102);
        CHECK.due("ranked(0, 3) behind set", x.ranked(0, 3), 1100);
        CHECK.due("agrees() behind set", x.agrees(), 1);
        x.take(0);
        CHECK.due("again(-1, 0) behind take", x.again(-1, 0), 2);
        x.run();
        CHECK.due("again(-1, 3) of another run", x.again(-1, 3), 1);
        CHECK.due("again(-1, 0) of another run", x.again(-1, 0), 1);
        x.undo();
        CHECK.due("again(-1, 3) behind undo, by the limit of that run", x.again(-1, 3), 100);
        x.set(3, 9999);
        x.keep(0);
        x.run();
        x.back(0);
        CHECK.due("again(-1, 3) behind back, by the limit of that run", x.again(-1, 3), 100);
    }

    private static void theLastLineIsForAll() {
        CHECK.under("Promises 17, 24, 26 and 28: the last line is that of all departments");
        CardTabulator x = Check.deckOf("d1 g1 w1 h20 r20", "d2 g1 w1 h10 r10", "d3 g1 w1 h10 r30");
        x.control(0, 0);
        x.control(1, 0);
        x.control(2, 0);
        x.set(3, 10);
        x.run();
        CHECK.dueLine(x, 12, 4, NONE, NONE, NONE, 3, 40, 90, 10, NONE);
        CHECK.due("told(2)", x.told(2), 3);
        CHECK.due("differs(0)", x.differs(0), 3);
        CHECK.due("differs(1)", x.differs(1), 40);
        CHECK.due("differs(2)", x.differs(2), 3);
        CHECK.due("agrees()", x.agrees(), 1);
        CHECK.dueFloat("mean()", x.mean(), 22.5f);
    }

    private static void agreesOrNot() {
        CHECK.under("Promise 26: 1 if both ways agree, or the report is empty, otherwise 0");
        CardTabulator x = Check.deckOf("d1 g1 w1 h10 r20", "d1 g1 w2 h10 r20", "d1 g1 w1 h10 r20");
        CHECK.due("agrees() without a run", x.agrees(), 1);
        x.set(0, 0);
        x.set(3, 20);
        x.run();
        CHECK.due("agrees() as many hours as the limit", x.agrees(), 1);
        x.set(3, 19);
        x.run();
        CHECK.due("agrees() one hour more than the limit", x.agrees(), 0);
        CHECK.due("again(-1, 3)", x.again(-1, 3), 1);
        CHECK.due("line(10, 7)", x.line(x.told(1) - 1, 7), 0);
        x.set(3, 20);
        CHECK.due("agrees() by the limit of the run", x.agrees(), 0);
        x.sort(2);
        x.set(3, 19);
        x.run();
        CHECK.due("agrees() of sorted cards", x.agrees(), 1);
        for (int i = 0; i < 3; i++) {
            x.mark(i, 1, 0);
        }
        x.run();
        CHECK.due("agrees() of no accepted card", x.agrees(), 1);
        CHECK.under("Promise 26: it looks at the overtime of workers that come again, by other rates");
        CardTabulator y = Check.deckOf("d1 g1 w1 h20 r20", "d1 g1 w2 h1 r1", "d1 g1 w1 h1 r0");
        y.set(0, 0);
        y.set(3, 10);
        y.run();
        CHECK.due("line(8, 7)", y.line(y.told(1) - 1, 7), 10);
        CHECK.due("again(-1, 3)", y.again(-1, 3), 0);
        CHECK.due("agrees()", y.agrees(), 0);
    }

    // ---- Promise 27

    private static void rankedAsks() {
        CHECK.under("Promise 27: NONE if there are not so many keys; BAD if k is negative or what is out of range");
        CardTabulator x = Check.deckOf("d1 g2 w3 h10 r10", "d1 g2 w3 h10 r10", "d4 g5 w6 h30 r10");
        for (int what = 0; what < 4; what++) {
            CHECK.due("ranked(0, " + what + ") without a run", x.ranked(0, what), NONE);
        }
        x.run();
        int[][] due = {{4, 5, 6, 30}, {1, 2, 3, 20}, {NONE, NONE, NONE, NONE}};
        for (int k = 0; k < 3; k++) {
            for (int what = 0; what < 4; what++) {
                CHECK.due("ranked(" + k + ", " + what + ")", x.ranked(k, what), due[k][what]);
            }
        }
        CHECK.due("ranked(40, 0)", x.ranked(40, 0), NONE);
        CHECK.due("ranked(most, 0)", x.ranked(Integer.MAX_VALUE, 0), NONE);
        int[][] wrong = {{-1, 0}, {0, -1}, {0, 4}, {-1, 4}, {2, 4}, {2, -1}, {NONE, 0},
            {Integer.MIN_VALUE, 0}, {0, Integer.MAX_VALUE}, {0, Integer.MIN_VALUE}};
        for (int[] a : wrong) {
            CHECK.due("ranked(" + a[0] + ", " + a[1] + ")", x.ranked(a[0], a[1]), BAD);
        }
    }

    private static void rankedTies() {
        CHECK.under("Promise 27: the greatest wages first, of equal ones the least key");
        String[][] pairs = {{"d1 g9 w9", "d2 g0 w0"}, {"d1 g1 w9", "d1 g2 w0"}, {"d1 g1 w1", "d1 g1 w2"},
            {"d0 g0 w0", "d0 g0 w1"}, {"d9 g9 w9", "d10 g0 w0"}};
        for (String[] pair : pairs) {
            CardTabulator x = runOf(pair[0], pair[1]);
            CardTabulator y = runOf(pair[1], pair[0]);
            int least = x.line(0, 1) * 1000000 + x.line(0, 2) * 1000 + x.line(0, 3);
            for (CardTabulator told : new CardTabulator[] {x, y}) {
                CHECK.due("key of rank 0 of " + pair[0] + " and " + pair[1], told.ranked(0, 0) * 1000000
                    + told.ranked(0, 1) * 1000 + told.ranked(0, 2), least);
                CHECK.due("wages of rank 1", told.ranked(1, 3), 1);
            }
        }
        CHECK.under("Promise 27: by their wages in the second way, with overtime");
        CardTabulator x = Check.deckOf("d1 g1 w1 h10 r100", "d1 g1 w2 h9 r110", "d1 g1 w1 h1 r20");
        x.set(0, 0);
        x.set(3, 10);
        x.run();
        CHECK.due("ranked(0, 2)", x.ranked(0, 2), 1);
        CHECK.due("ranked(0, 3)", x.ranked(0, 3), 103);
        CHECK.due("ranked(1, 3)", x.ranked(1, 3), 99);
        CardTabulator y = Check.deckOf("d1 g1 w1 h10 r100", "d1 g1 w2 h19 r50");
        y.set(3, 10);
        y.run();
        // Without overtime the wages are 100 and 95; 9 * 50 / 20 = 22 puts the second one first.
        CHECK.due("ranked(0, 2) by the overtime", y.ranked(0, 2), 2);
        CHECK.due("ranked(0, 3)", y.ranked(0, 3), 117);
        CHECK.due("ranked(1, 2)", y.ranked(1, 2), 1);
        CHECK.due("ranked(1, 3)", y.ranked(1, 3), 100);
    }

    private static void rankedFortyKeys() {
        CHECK.under("Promise 27: of 40 keys");
        CardTabulator x = new CardTabulator();
        Check.type(x, "d1 g1 w0 h10 r0");
        for (int i = 0; i < 40; i++) {
            x.punch(i);
        }
        x.set(1, 0);
        for (int i = 0; i < 40; i++) {
            x.repunch(i, 5, i / 10);
            x.repunch(i, 6, i % 10);
            x.repunch(i, 13, i / 10);
        }
        CHECK.due("run()", x.run(), 40);
        CHECK.due("again(-1, 4)", x.again(-1, 4), 40);
        for (int k = 0; k < 40; k++) {
            CHECK.due("ranked(" + k + ", 2)", x.ranked(k, 2), 30 - k / 10 * 10 + k % 10);
        }
        CHECK.due("ranked(39, 3)", x.ranked(39, 3), 0);
        CHECK.due("ranked(40, 3)", x.ranked(40, 3), NONE);
        CHECK.due("agrees()", x.agrees(), 1);
    }

    // ---- Promise 28

    private static void meanOfNoHours() {
        CHECK.under("Promise 28: 0.0 if there are no hours");
        CardTabulator x = Check.deckOf("d1 g1 w1 h0 r9999");
        CHECK.dueFloat("mean() without a run", x.mean(), 0.0f);
        x.run();
        CHECK.dueFloat("mean() of no hours", x.mean(), 0.0f);
        x.mark(0, 1, 0);
        x.run();
        CHECK.dueFloat("mean() of no accepted card", x.mean(), 0.0f);
        CardTabulator y = Check.deckOf("d1 g1 w1 h1 r0");
        y.run();
        CHECK.dueFloat("mean() of no wages", y.mean(), 0.0f);
        CardTabulator z = Check.deckOf("d1 g1 w1 h1 r30");
        z.run();
        CHECK.dueFloat("mean() of the least hours", z.mean(), 30.0f);
    }

    private static void meanOfTheLastLine() {
        CHECK.under("Promise 28: 10 times the wages of the last line, divided by its hours");
        CardTabulator x = Check.deckOf("d1 g1 w1 h1 r10", "d1 g1 w2 h2 r5", "d1 g1 w1 h1 r10");
        x.set(0, 0);
        x.set(3, 1);
        x.run();
        // Wages 1, 1 and 1; the second worker has the overtime 5 / 20 = 0, the second way 10 / 20 = 0.
        CHECK.dueFloat("mean()", x.mean(), 7.5f);
        x.repunch(0, 12, 9);
        x.repunch(2, 12, 9);
        x.repunch(0, 14, x.card(0, 6));
        x.repunch(2, 14, x.card(2, 6));
        x.run();
        // Wages 9, 1 and 9 in the report; in the second way 90 / 20 = 4 more.
        CHECK.due("again(-1, 2)", x.again(-1, 2), 23);
        CHECK.dueFloat("mean() of the last line", x.mean(), 47.5f);
        x.set(3, 0);
        x.run();
        CHECK.due("overtime of the last line", x.line(x.told(1) - 1, 7), 8);
        CHECK.dueFloat("mean() with overtime", x.mean(), 67.5f);
    }

    private static void meanAsFloat() {
        CHECK.under("Promise 28: as a float, both converted to float");
        CardTabulator x = Check.deckOf("d1 g1 w1 h3 r4");
        x.run();
        CHECK.dueFloat("mean() of 10 / 3", x.mean(), 3.3333333f);
        CardTabulator y = greatestDeck();
        y.run();
        // Ten times the wages are more than an int holds.
        CHECK.dueFloat("mean() of the greatest numbers", y.mean(), (float) 5998800020L / 399960f);
        CardTabulator z = new CardTabulator();
        z.lay(3, 15, 4);
        z.set(2, 9999);
        z.set(3, 9999);
        Check.punchAll(z, "d1 g1 w1 h9001 r9996");
        z.run();
        // 89973990 is 89973992 as a float; the quotient of the exact numbers would be 9995.999.
        CHECK.dueFloat("mean() of a number that no float holds", z.mean(), 9996.0f);
    }
}
