/** Promises 12 and 22 to 28: run, line, reason, differs, again, agrees, ranked, mean. */
public final class RunTest {
    private static final int BAD = CardTabulator.BAD, NONE = CardTabulator.NONE;
    private static final Check CHECK = new Check();

    public static void main(String[] args) {
        report();
        secondWay();
        controls();
        wrongInputs();
        noAcceptedCards();
        disagreement();
        ties();
        takenCards();
        sequenceRules();
        latestAccepted();
        reportStays();
        numbersOfFedCards();
        greatestNumbers();
        longestReport();
        CHECK.end("RunTest");
    }

    private static CardTabulator fiveCards() {
        CardTabulator x = Check.deckOf("d1 g1 w1 h300 r100", "d1 g1 w1 h200 r200",
            "d1 g1 w2 h105 r33", "d1 g2 w1 h400 r100", "d2 g2 w1 h401 r99");
        CHECK.due("run()", x.run(), 5);
        return x;
    }

    private static void report() {
        CardTabulator x = fiveCards();
        CHECK.dueLine(x, 0, 0, 1, 1, 1, 1, 300, 3000, 0, 0);
        CHECK.dueLine(x, 1, 0, 1, 1, 1, 1, 200, 4000, 0, 1);
        // Overtime: 100 tenths at the rate of the latest card.
        CHECK.dueLine(x, 2, 1, 1, 1, 1, 2, 500, 8000, 1000, NONE);
        CHECK.dueLine(x, 3, 0, 1, 1, 2, 1, 105, 346, 0, 2);
        CHECK.dueLine(x, 4, 1, 1, 1, 2, 1, 105, 346, 0, NONE);
        CHECK.dueLine(x, 5, 2, 1, 1, NONE, 3, 605, 8346, 1000, NONE);
        // As many hours as the limit are no overtime.
        CHECK.dueLine(x, 6, 0, 1, 2, 1, 1, 400, 4000, 0, 3);
        CHECK.dueLine(x, 7, 1, 1, 2, 1, 1, 400, 4000, 0, NONE);
        CHECK.dueLine(x, 8, 2, 1, 2, NONE, 1, 400, 4000, 0, NONE);
        CHECK.dueLine(x, 9, 3, 1, NONE, NONE, 4, 1005, 12346, 1000, NONE);
        // The department differs, so all levels break, though group and worker are the same.
        CHECK.dueLine(x, 10, 0, 2, 2, 1, 1, 401, 3969, 0, 4);
        CHECK.dueLine(x, 11, 1, 2, 2, 1, 1, 401, 3973, 4, NONE);
        CHECK.dueLine(x, 12, 2, 2, 2, NONE, 1, 401, 3973, 4, NONE);
        CHECK.dueLine(x, 13, 3, 2, NONE, NONE, 1, 401, 3973, 4, NONE);
        CHECK.dueLine(x, 14, 4, NONE, NONE, NONE, 5, 1406, 16319, 1004, NONE);
        CHECK.due("told(1)", x.told(1), 15);
        CHECK.due("told(2)", x.told(2), 5);
        CHECK.due("told(3)", x.told(3), 0);
        for (int k = 0; k < 5; k++) {
            CHECK.due("reason(" + k + ")", x.reason(k), 0);
        }
        CHECK.due("told(6): run is a change", x.told(6), 6);
    }

    private static void secondWay() {
        CardTabulator x = fiveCards();
        int[][] due = {{5, 1406, 16319, 1004, 4}, {0, 0, 0, 0, 0}, {4, 1005, 12346, 1000, 3},
            {1, 401, 3973, 4, 1}, {0, 0, 0, 0, 0}};
        for (int department = -1; department <= 3; department++) {
            for (int what = 0; what <= 4; what++) {
                CHECK.due("again(" + department + ", " + what + ")",
                    x.again(department, what), due[department + 1][what]);
            }
        }
        CHECK.due("again of a department that no field can hold",
            x.again(Integer.MAX_VALUE, 0), 0);
        CHECK.due("agrees()", x.agrees(), 1);
        CHECK.dueFloat("mean()", x.mean(), 163190f / 1406f);
        int[][] ranks = {{1, 1, 1, 8000}, {1, 2, 1, 4000}, {2, 2, 1, 3973}, {1, 1, 2, 346},
            {NONE, NONE, NONE, NONE}};
        for (int k = 0; k < ranks.length; k++) {
            for (int what = 0; what < 4; what++) {
                CHECK.due("ranked(" + k + ", " + what + ")", x.ranked(k, what), ranks[k][what]);
            }
        }
        x.set(3, 0);
        CHECK.due("the limit is the one of the run", x.again(-1, 3), 1004);
        CHECK.due("agrees() behind set", x.agrees(), 1);
        CHECK.due("ranked(0, 3) behind set", x.ranked(0, 3), 8000);
        CHECK.due("told(6): questions are no changes", x.told(6), 7);
    }

    private static void controls() {
        CardTabulator x = fiveCards();
        for (int which = 0; which < 3; which++) {
            CHECK.due("differs(" + which + ") when none is told", x.differs(which), NONE);
        }
        x.control(0, 5);
        x.control(1, 1500);
        x.control(2, 3);
        CHECK.due("differs(0)", x.differs(0), 0);
        CHECK.due("differs(1)", x.differs(1), -94);
        CHECK.due("differs(2)", x.differs(2), 3);
        x.control(0, NONE);
        CHECK.due("differs(0) when none is told again", x.differs(0), NONE);
        x.control(1, 1000000);
        CHECK.due("differs(1) of the greatest", x.differs(1), 1406 - 1000000);
        CardTabulator y = new CardTabulator();
        y.control(0, 3);
        CHECK.due("differs(0) before a run", y.differs(0), NONE);
        y.run();
        CHECK.due("differs(0) of no cards", y.differs(0), -3);
    }

    private static void wrongInputs() {
        CardTabulator x = fiveCards();
        int[][] lines = {{-1, 0}, {15, 0}, {0, -1}, {0, 9}, {Integer.MAX_VALUE, 0},
            {Integer.MIN_VALUE, 8}};
        for (int[] a : lines) {
            CHECK.due("line(" + a[0] + ", " + a[1] + ")", x.line(a[0], a[1]), BAD);
        }
        CHECK.due("reason(-1)", x.reason(-1), BAD);
        CHECK.due("reason(5)", x.reason(5), BAD);
        CHECK.due("differs(-1)", x.differs(-1), BAD);
        CHECK.due("differs(3)", x.differs(3), BAD);
        CHECK.due("again(-2, 0)", x.again(-2, 0), BAD);
        CHECK.due("again(-1, 5)", x.again(-1, 5), BAD);
        CHECK.due("again(0, -1)", x.again(0, -1), BAD);
        CHECK.due("ranked(-1, 0)", x.ranked(-1, 0), BAD);
        CHECK.due("ranked(0, 4)", x.ranked(0, 4), BAD);
        CHECK.due("ranked(99, -1): BAD before NONE", x.ranked(99, -1), BAD);
        CardTabulator y = new CardTabulator();
        CHECK.due("differs(3) before a run", y.differs(3), BAD);
        CHECK.due("reason(0) before a run", y.reason(0), BAD);
        CHECK.due("ranked(0, 0) before a run", y.ranked(0, 0), NONE);
    }

    private static void noAcceptedCards() {
        CardTabulator x = Check.deckOf("w1", "w2");
        CHECK.due("run()", x.run(), 0);
        CHECK.due("told(1)", x.told(1), 1);
        CHECK.due("told(2)", x.told(2), 0);
        CHECK.due("told(3)", x.told(3), 2);
        CHECK.dueLine(x, 0, 4, NONE, NONE, NONE, 0, 0, 0, 0, NONE);
        CHECK.due("reason(1)", x.reason(1), 2);
        CHECK.due("agrees()", x.agrees(), 1);
        CHECK.dueFloat("mean()", x.mean(), 0.0f);
        CHECK.due("again(-1, 4)", x.again(-1, 4), 0);
        CardTabulator y = Check.deckOf("d1 g1 w1 h0 r500");
        CHECK.due("run() of a card without hours", y.run(), 1);
        CHECK.dueFloat("mean() of no hours", y.mean(), 0.0f);
    }

    /** A worker whose cards are not together has no overtime in the report. */
    private static void disagreement() {
        CardTabulator x = Check.deckOf("d1 g1 w1 h300 r100", "d1 g1 w2 h100 r100",
            "d1 g1 w1 h300 r200");
        x.set(0, 0);
        CHECK.due("run()", x.run(), 3);
        CHECK.dueLine(x, 7, 3, 1, NONE, NONE, 3, 700, 10000, 0, NONE);
        CHECK.dueLine(x, 8, 4, NONE, NONE, NONE, 3, 700, 10000, 0, NONE);
        CHECK.due("agrees()", x.agrees(), 0);
        int[] due = {3, 700, 12000, 2000, 2};
        for (int what = 0; what < 5; what++) {
            CHECK.due("again(-1, " + what + ")", x.again(-1, what), due[what]);
        }
        CHECK.due("ranked(0, 3)", x.ranked(0, 3), 11000);
        CHECK.dueFloat("mean() is of the report", x.mean(), 100000f / 700f);
        x.sort(2);
        x.run();
        CHECK.due("agrees() when sorted", x.agrees(), 1);
    }

    private static void ties() {
        CardTabulator x = Check.deckOf("d2 g1 w1 h10 r10", "d1 g2 w1 h10 r10", "d1 g1 w9 h10 r10",
            "d1 g1 w8 h10 r10", "d1 g1 w7 h10 r9", "d9 g9 w9 h10 r11");
        x.set(0, 0);
        x.run();
        int[][] ranks = {{9, 9, 9, 11}, {1, 1, 8, 10}, {1, 1, 9, 10}, {1, 2, 1, 10}, {2, 1, 1, 10},
            {1, 1, 7, 9}};
        for (int k = 0; k < ranks.length; k++) {
            for (int what = 0; what < 4; what++) {
                CHECK.due("ranked(" + k + ", " + what + ") of ties",
                    x.ranked(k, what), ranks[k][what]);
            }
        }
        CHECK.due("ranked(6, 0)", x.ranked(6, 0), NONE);

        CardTabulator y = Check.deckOf("d1 g1 w1 h10 r10", "d1 g1 w2 h10 r10", "d1 g1 w3 h10 r10");
        y.run();
        for (int k = 0; k < 3; k++) {
            CHECK.due("ranked(" + k + ", 2) of ties in order", y.ranked(k, 2), k + 1);
        }
    }

    /** What was taken out is not fed. */
    private static void takenCards() {
        CardTabulator x = Check.deckOf("d1 g1 w1 h10 r10", "d1 g1 w2 h10 r10");
        x.take(1);
        CHECK.due("run() behind take", x.run(), 1);
        CHECK.due("accepts(0) behind take", x.accepts(0), 1);
        CHECK.due("agrees() as the first question", x.agrees(), 1);
        CHECK.due("told(1) behind take", x.told(1), 5);
    }

    private static void dueReasons(CardTabulator x, String rule, int... reasons) {
        for (int k = 0; k < reasons.length; k++) {
            CHECK.due(rule + ": reason(" + k + ")", x.reason(k), reasons[k]);
        }
        CHECK.due(rule + ": reason behind the last", x.reason(reasons.length), BAD);
    }

    private static void sequenceRules() {
        CardTabulator x = Check.deckOf("d1 g1 w2 h1 r1", "d1 g1 w1 h1 r1", "d1 g1 w3 h1 r1",
            "w1", "d1 g1 w3 h1 r1");
        CHECK.due("run() by rule 1", x.run(), 3);
        dueReasons(x, "rule 1", 0, 5, 0, 2, 0);
        CHECK.due("told(3) by rule 1", x.told(3), 2);
        x.set(0, 2);
        CHECK.due("run() by rule 2", x.run(), 1);
        dueReasons(x, "rule 2", 0, 6, 6, 6, 6);
        CHECK.due("told(3) by rule 2", x.told(3), 0);
        CHECK.due("told(2) by rule 2", x.told(2), 1);
        x.take(1);
        CHECK.due("run() by rule 2 of others", x.run(), 3);
        dueReasons(x, "rule 2 of others", 0, 0, 2, 0);
        x.undo();
        x.undo();
        x.set(0, 0);
        CHECK.due("run() by rule 0", x.run(), 4);
        dueReasons(x, "rule 0", 0, 0, 0, 2, 0);
        CardTabulator y = Check.deckOf("d1 g2 w1 h1 r1", "d1 g1 w9 h1 r1", "d2 g1 w1 h1 r1",
            "d1 g9 w9 h1 r1");
        CHECK.due("run() of keys", y.run(), 2);
        dueReasons(y, "keys", 0, 5, 0, 5);
    }

    /** The key is compared with that of the latest accepted card, not with a refused one. */
    private static void latestAccepted() {
        CardTabulator x = Check.deckOf("d1 g1 w5 h1 r1", "d1 g1 w9 h2 r1", "d1 g1 w7 h1 r1",
            "d1 g1 w6 h2 r1", "d1 g1 w5 h1 r1");
        x.set(2, 1);
        CHECK.due("run()", x.run(), 2);
        dueReasons(x, "latest accepted", 0, 4, 0, 4, 5);
        x.mark(0, 1, 0);
        x.mark(2, 3, 0);
        CHECK.due("run() of marked cards", x.run(), 1);
        dueReasons(x, "marked", 1, 4, 2, 4, 0);
        CHECK.due("told(3)", x.told(3), 4);
    }

    private static void reportStays() {
        CardTabulator x = fiveCards();
        for (int i = 0; i < 5; i++) {
            x.take(0);
        }
        x.lay(2, 20, 1);
        CHECK.due("told(1) behind takes", x.told(1), 15);
        CHECK.due("reason(4) behind takes", x.reason(4), 0);
        CHECK.dueLine(x, 10, 0, 2, 2, 1, 1, 401, 3969, 0, 4);
        CHECK.due("again(-1, 2) behind takes", x.again(-1, 2), 16319);
        x.control(2, 0);
        CHECK.due("differs(2) behind takes", x.differs(2), 6);
        CHECK.due("run() of no cards", x.run(), 0);
        CHECK.due("told(1) behind an empty run", x.told(1), 1);
        CHECK.due("reason(0) behind an empty run", x.reason(0), BAD);
        CHECK.due("line(1, 0) behind an empty run", x.line(1, 0), BAD);
    }

    private static void numbersOfFedCards() {
        CardTabulator x = Check.deckOf("w1", "d1 g1 w1 h1 r1", "w1", "d1 g1 w1 h1 r1");
        CHECK.due("run()", x.run(), 2);
        CHECK.due("line(0, 8)", x.line(0, 8), 1);
        CHECK.due("line(1, 8)", x.line(1, 8), 3);
        CHECK.due("told(3)", x.told(3), 2);
    }

    private static void greatestNumbers() {
        CardTabulator x = new CardTabulator();
        x.lay(3, 7, 4);
        x.lay(4, 11, 4);
        x.lay(5, 15, 1);
        x.set(2, 9999);
        x.set(3, 0);
        Check.type(x, "d99 g99 w999 h9999 r9999");
        for (int i = 0; i < 40; i++) {
            x.punch(0);
        }
        CHECK.due("run()", x.run(), 40);
        int hours = 40 * 9999;
        int overtime = (int) ((long) hours * 9999 / 20);
        int wages = 40 * (9999 * 9999 / 10) + overtime;
        CHECK.dueLine(x, 40, 1, 99, 99, 999, 40, hours, wages, overtime, NONE);
        CHECK.dueLine(x, 43, 4, NONE, NONE, NONE, 40, hours, wages, overtime, NONE);
        CHECK.due("again(99, 3)", x.again(99, 3), overtime);
        CHECK.due("ranked(0, 3)", x.ranked(0, 3), wages);
        CHECK.due("agrees()", x.agrees(), 1);
        CHECK.dueFloat("mean()", x.mean(), (float) (10L * wages) / (float) hours);
        x.control(2, 1);
        CHECK.due("differs(2)", x.differs(2), 40 * 999 - 1);
    }

    /** Forty cards, each of another department than the one before it. */
    private static void longestReport() {
        CardTabulator x = new CardTabulator();
        x.set(0, 0);
        Check.type(x, "d1 g1 w1 h1 r1");
        for (int i = 0; i < 20; i++) {
            x.punch(i);
        }
        Check.type(x, "d2 g1 w1 h1 r1");
        for (int i = 1; i < 40; i += 2) {
            x.punch(i);
        }
        CHECK.due("run()", x.run(), 40);
        CHECK.due("told(1)", x.told(1), 161);
        CHECK.due("line(159, 0)", x.line(159, 0), 3);
        CHECK.due("line(160, 0)", x.line(160, 0), 4);
        CHECK.due("line(160, 4)", x.line(160, 4), 40);
        CHECK.due("line(161, 0)", x.line(161, 0), BAD);
        CHECK.due("again(-1, 4)", x.again(-1, 4), 2);
        CHECK.due("again(2, 0)", x.again(2, 0), 20);
    }
}
