/**
 * Boundary cases of the term RUNNING, and of promises 3, 12, 18, 21 (9), 23 and 30: settings, how
 * cards are fed and read, for which reason they are refused, and where a run stops.
 */
public final class RunningEdgesTest {
    private static final int BAD = CardTabulator.BAD, NONE = CardTabulator.NONE;
    private static final int[] ODD = {-1, NONE, BAD, Integer.MIN_VALUE, Integer.MAX_VALUE};
    private static final Check CHECK = new Check();

    public static void main(String[] args) {
        rangesOfSettings();
        settingAsks();
        skippedCardIsNotRead();
        shiftedColumns();
        tornColumns();
        columnOfOtherMarks();
        readDigitIsDue();
        everyFieldNeedsAValue();
        checksAreMade();
        hoursOfACard();
        firstReasonThatApplies();
        firstReasonInARun();
        equalKeys();
        keyIsComparedInOrder();
        latestAcceptedCard();
        eachRunBeginsAnew();
        noSequenceRule();
        theRunStops();
        otherReasonsDoNotStop();
        firstCardOfARun();
        runOfNoCards();
        runOfFortyCards();
        reasonAsks();
        refusedCards();
        acceptsAsks();
        acceptsAsARun();
        CHECK.end("RunningEdgesTest");
    }

    // ---- settings: Promises 3 and 18

    private static void rangesOfSettings() {
        CHECK.under("RUNNING, Promise 3: settings (range; first value): 0 to 2; 1, 0 to 1; 1, 0 to 9999; 999, 0 to 9999; 400");
        int[] first = {1, 1, 999, 400};
        int[] most = {2, 1, 9999, 9999};
        for (int i = 0; i < 4; i++) {
            CardTabulator x = new CardTabulator();
            CHECK.due("setting(" + i + ")", x.setting(i), first[i]);
            CHECK.due("set(" + i + ", -1)", x.set(i, -1), BAD);
            CHECK.due("set(" + i + ") one beyond", x.set(i, most[i] + 1), BAD);
            for (int odd : ODD) {
                CHECK.due("set(" + i + ", " + odd + ")", x.set(i, odd), BAD);
            }
            CHECK.due("setting(" + i + ") behind them", x.setting(i), first[i]);
            CHECK.due("set(" + i + ") to the most", x.set(i, most[i]), first[i]);
            CHECK.due("setting(" + i + ") then", x.setting(i), most[i]);
            CHECK.due("set(" + i + ", 0)", x.set(i, 0), most[i]);
            CHECK.due("setting(" + i + ") then", x.setting(i), 0);
            CHECK.due("set(" + i + ", 1)", x.set(i, 1), 0);
            for (int other = 0; other < 4; other++) {
                CHECK.due("setting(" + other + ") behind the changes of " + i, x.setting(other),
                    other == i ? 1 : first[other]);
            }
        }
    }

    private static void settingAsks() {
        CHECK.under("Promises 3 and 18: BAD if there is no such setting");
        CardTabulator x = new CardTabulator();
        for (int odd : ODD) {
            CHECK.due("setting(" + odd + ")", x.setting(odd), BAD);
            CHECK.due("set(" + odd + ", 0)", x.set(odd, 0), BAD);
        }
        CHECK.due("setting(4)", x.setting(4), BAD);
        CHECK.due("set(4, 0)", x.set(4, 0), BAD);
        CHECK.due("told(6)", x.told(6), 0);
    }

    // ---- feeding

    private static void skippedCardIsNotRead() {
        CHECK.under("RUNNING: a card that is marked as skipped is not read");
        CardTabulator x = Check.deckOf("d1 g1 w9 h1 r1", "d1 g1 w1 h1 r1");
        x.mark(0, 1, 0);
        CHECK.due("card(0, 9)", x.card(0, 9), 1);
        CHECK.due("run()", x.run(), 1);
        CHECK.dueText("reasons", Check.reasons(x, 2), "10");
        CHECK.due("line(0, 8)", x.line(0, 8), 1);
    }

    /** A card that shows i % 10 in column i, with all fields in column 0 and without checks. */
    private static CardTabulator cardOfDigits() {
        CardTabulator x = Check.deckOf("d0");
        x.set(1, 0);
        for (int i = 0; i < 24; i++) {
            x.repunch(0, i, i % 10);
        }
        layAll(x, 0);
        return x;
    }

    private static void layAll(CardTabulator x, int column) {
        for (int field = 0; field < 5; field++) {
            x.lay(field, column, 1);
        }
    }

    private static void shiftedColumns() {
        CHECK.under("RUNNING: a shifted card shows in each column but the last one what the next one shows, and a blank there");
        CardTabulator x = cardOfDigits();
        x.mark(0, 2, 0);
        for (int column = 0; column < 23; column++) {
            layAll(x, column);
            CHECK.due("run() by column " + column, x.run(), 1);
            CHECK.due("worker by column " + column, x.line(0, 3), (column + 1) % 10);
        }
        layAll(x, 23);
        CHECK.due("card(0, 9) by the last column", x.card(0, 9), 2);
        CHECK.due("run() by the last column", x.run(), 0);
        CHECK.due("reason(0)", x.reason(0), 2);
        CHECK.dueColumns("run: the card stays", x, 0, "012345678901234567890123");
        x.repunch(0, 5, NONE);
        layAll(x, 4);
        CHECK.due("card(0, 9) with a blank in the next column", x.card(0, 9), 2);
        layAll(x, 5);
        CHECK.due("card(0, 9) with a blank in the column itself", x.card(0, 9), 0);
    }

    private static void tornColumns() {
        CHECK.under("RUNNING: of a torn card, its torn column is blank");
        for (int torn = 0; torn < 24; torn++) {
            CardTabulator x = cardOfDigits();
            x.mark(0, 3, torn);
            for (int column = 0; column < 24; column++) {
                layAll(x, column);
                CHECK.due("card(0, 9) by column " + column + ", torn in " + torn, x.card(0, 9),
                    column == torn ? 2 : 0);
            }
            layAll(x, (torn + 1) % 24);
            CHECK.due("run() by the column behind the torn one", x.run(), 1);
            CHECK.due("the worker of its line", x.line(0, 3), (torn + 1) % 24 % 10);
            CHECK.dueColumns("run: the card stays", x, 0, "012345678901234567890123");
        }
    }

    private static void columnOfOtherMarks() {
        CHECK.under("RUNNING, Promise 9: a column that is told of a card that is not torn is not blank");
        CardTabulator x = cardOfDigits();
        layAll(x, 7);
        x.mark(0, 0, 7);
        CHECK.due("card(0, 9) fed well", x.card(0, 9), 0);
        x.mark(0, 2, 7);
        CHECK.due("card(0, 9) shifted", x.card(0, 9), 0);
        x.mark(0, 2, 8);
        CHECK.due("card(0, 9) shifted, of the next column", x.card(0, 9), 0);
        x.mark(0, 1, 7);
        CHECK.due("card(0, 9) skipped", x.card(0, 9), 1);
    }

    private static void readDigitIsDue() {
        CHECK.under("RUNNING: the digit is due by what is read");
        CardTabulator x = Check.deckOf("d1 g1 w1 h1 r1");
        CHECK.due("card(0, 6)", x.card(0, 6), 9);
        x.mark(0, 2, 0);
        x.repunch(0, 14, 4);
        // Shifted, the fields show 10, 10, 010, 010 and 0014: 3 + 3 + 1 + 1 + (3 * 1 + 4) = 15.
        x.repunch(0, 15, 5);
        CHECK.due("card(0, 9) with the digit that is due when shifted", x.card(0, 9), 0);
        x.repunch(0, 15, 9);
        CHECK.due("card(0, 9) with the digit that is due on the card", x.card(0, 9), 3);
        CHECK.due("card(0, 6) tells of the card itself", x.card(0, 6), 9);
        x.repunch(0, 15, 5);
        CHECK.due("run()", x.run(), 1);
        CHECK.dueLine(x, 0, 0, 10, 10, 10, 1, 10, 14, 0, 0);
    }

    // ---- reasons

    private static void everyFieldNeedsAValue() {
        CHECK.under("RUNNING: 2 one of the fields 0 to 4 has no value");
        String[] texts = {"g1 w1 h1 r1", "d1 w1 h1 r1", "d1 g1 h1 r1", "d1 g1 w1 r1", "d1 g1 w1 h1"};
        for (int field = 0; field < 5; field++) {
            CardTabulator x = Check.deckOf(texts[field]);
            x.set(1, 0);
            CHECK.due("card(0, 9) of " + texts[field], x.card(0, 9), 2);
            CHECK.due("run() of " + texts[field], x.run(), 0);
            CHECK.due("reason(0) of " + texts[field], x.reason(0), 2);
        }
        CardTabulator x = Check.deckOf("d0 g0 w0 h0 r0");
        CHECK.due("card(0, 9) of zeros", x.card(0, 9), 0);
        x.repunch(0, 14, NONE);
        x.set(1, 0);
        CHECK.due("card(0, 9) without the field 5 alone", x.card(0, 9), 0);
    }

    private static void checksAreMade() {
        CHECK.under("RUNNING: 3 checks are made, and the field 5 shows another digit, or none");
        CardTabulator x = Check.deckOf("d1 g1 w1 h1 r1");
        for (int digit = 0; digit <= 9; digit++) {
            x.repunch(0, 14, digit);
            CHECK.due("card(0, 9) with a " + digit, x.card(0, 9), digit == 9 ? 0 : 3);
        }
        x.repunch(0, 14, NONE);
        CHECK.due("card(0, 9) with a blank", x.card(0, 9), 3);
        CHECK.due("run() with a blank", x.run(), 0);
        CHECK.due("reason(0)", x.reason(0), 3);
        x.set(1, 0);
        CHECK.due("card(0, 9) without checks", x.card(0, 9), 0);
        CHECK.due("run() without checks", x.run(), 1);
        x.repunch(0, 14, 0);
        CHECK.due("card(0, 9) with a wrong digit without checks", x.card(0, 9), 0);
        CardTabulator zero = Check.deckOf("d0 g0 w0 h0 r0");
        zero.repunch(0, 14, NONE);
        CHECK.due("card(0, 9) with a blank where 0 is due", zero.card(0, 9), 3);
    }

    private static void hoursOfACard() {
        CHECK.under("RUNNING: 4 the hours are greater than the most hours");
        int[][] due = {{0, 0, 0}, {1, 0, 4}, {1, 1, 0}, {2, 1, 4}, {998, 999, 0}, {999, 999, 0},
            {999, 998, 4}, {999, 0, 4}};
        for (int[] a : due) {
            CardTabulator x = Check.deckOf("d1 g1 w1 h" + a[0] + " r1");
            x.set(2, a[1]);
            CHECK.due("card(0, 9) of " + a[0] + " hours, " + a[1] + " the most", x.card(0, 9), a[2]);
            CHECK.due("run()", x.run(), a[2] == 0 ? 1 : 0);
            CHECK.due("reason(0)", x.reason(0), a[2]);
        }
        CardTabulator x = new CardTabulator();
        x.lay(3, 15, 4);
        Check.punchAll(x, "d1 g1 w1 h9999 r1", "d1 g1 w1 h1000 r1");
        CHECK.due("card(0, 9) of 9999 hours", x.card(0, 9), 4);
        CHECK.due("card(1, 9) of 1000 hours", x.card(1, 9), 4);
        x.set(2, 9998);
        CHECK.due("card(0, 9) of 9999 hours, 9998 the most", x.card(0, 9), 4);
        x.set(2, 9999);
        CHECK.due("card(0, 9) of 9999 hours, 9999 the most", x.card(0, 9), 0);
    }

    private static final int SKIPPED = 1, BLANK = 2, CHECKED = 4, LONG = 8, LESS = 16;

    /** The second card of a deck, for which some of the reasons 1 to 5 apply. */
    private static CardTabulator deckWith(int reasons) {
        CardTabulator x = new CardTabulator();
        Check.punchAll(x, "d5 g5 w5 h1 r1",
            ((reasons & LESS) == 0 ? "d5" : "d4") + " g5 w5 " + ((reasons & LONG) == 0 ? "h2" : "h3") + " r1");
        x.set(2, 2);
        if ((reasons & BLANK) != 0) {
            // A 0 was there, so the check digit is due all the same.
            x.repunch(1, 10, NONE);
        }
        if ((reasons & CHECKED) != 0) {
            x.repunch(1, 14, (x.column(1, 14) + 1) % 10);
        }
        if ((reasons & SKIPPED) != 0) {
            x.mark(1, 1, 0);
        }
        return x;
    }

    private static int firstOf(int reasons) {
        for (int i = 0; i < 5; i++) {
            if ((reasons >> i & 1) == 1) {
                return i + 1;
            }
        }
        return 0;
    }

    private static void firstReasonThatApplies() {
        CHECK.under("RUNNING, Promise 21: the first of these reasons that applies, if no card were before it");
        for (int reasons = 0; reasons < 32; reasons++) {
            CHECK.due("card(1, 9) with the reasons " + Integer.toBinaryString(reasons),
                deckWith(reasons).card(1, 9), firstOf(reasons & ~LESS));
        }
    }

    private static void firstReasonInARun() {
        CHECK.under("RUNNING, Promise 12: the card is refused for the first of these reasons that applies");
        for (int reasons = 0; reasons < 32; reasons++) {
            CardTabulator x = deckWith(reasons);
            String name = " with the reasons " + Integer.toBinaryString(reasons);
            CHECK.due("accepts(1)" + name, x.accepts(1), reasons == 0 ? 2 : 1);
            CHECK.due("run()" + name, x.run(), reasons == 0 ? 2 : 1);
            CHECK.due("reason(1)" + name, x.reason(1), firstOf(reasons));
            x.set(0, 0);
            x.run();
            CHECK.due("reason(1) without a sequence rule" + name, x.reason(1), firstOf(reasons & ~LESS));
            x.set(0, 1);
            x.set(1, 0);
            x.run();
            CHECK.due("reason(1) without checks" + name, x.reason(1), firstOf(reasons & ~CHECKED));
        }
    }

    // ---- the sequence

    private static void dueRun(String... textsAndReasons) {
        int cards = textsAndReasons.length - 1;
        CardTabulator x = new CardTabulator();
        for (int i = 0; i < cards; i++) {
            Check.punchAll(x, textsAndReasons[i] + " h1 r1");
        }
        x.run();
        CHECK.dueText("reasons of " + String.join(", ", textsAndReasons), Check.reasons(x, cards),
            textsAndReasons[cards]);
    }

    private static void equalKeys() {
        CHECK.under("RUNNING: 5 the key is less than that of the latest accepted card; an equal one is not");
        dueRun("d1 g1 w1", "d1 g1 w1", "d1 g1 w1", "000");
        dueRun("d1 g1 w1", "d1 g1 w0", "05");
        dueRun("d1 g1 w0", "d1 g1 w1", "00");
        dueRun("d99 g99 w999", "d99 g99 w999", "00");
        dueRun("d99 g99 w999", "d99 g99 w998", "05");
        dueRun("d0 g0 w0", "d0 g0 w0", "00");
    }

    private static void keyIsComparedInOrder() {
        CHECK.under("RUNNING: the key is department, group and worker, compared in this order");
        dueRun("d1 g9 w9", "d2 g0 w0", "00");
        dueRun("d2 g0 w0", "d1 g9 w9", "05");
        dueRun("d1 g1 w999", "d1 g2 w0", "00");
        dueRun("d1 g2 w0", "d1 g1 w999", "05");
        dueRun("d1 g99 w999", "d2 g0 w0", "00");
        dueRun("d2 g0 w0", "d1 g99 w999", "05");
        CardTabulator x = new CardTabulator();
        x.lay(0, 0, 4);
        x.lay(1, 4, 4);
        x.lay(2, 16, 4);
        x.lay(3, 8, 1);
        x.lay(4, 9, 1);
        Check.punchAll(x, "d0 g9999 w9999 h1 r1", "d1 g0 w0 h1 r1", "d0 g9999 w9999 h1 r1",
            "d1 g0 w9999 h1 r1", "d1 g1 w0 h1 r1", "d1 g0 w9999 h1 r1", "d9999 g9999 w9999 h1 r1",
            "d9999 g9999 w9998 h1 r1", "d9999 g9998 w9999 h1 r1", "d9998 g9999 w9999 h1 r1");
        x.run();
        CHECK.dueText("reasons of the widest keys", Check.reasons(x, 10), "0050050555");
    }

    private static void latestAcceptedCard() {
        CHECK.under("RUNNING: the latest card that was accepted, not one that was refused");
        dueRun("d1 g1 w5", "d1 g1 w1", "d1 g1 w3", "d1 g1 w5", "0550");
        dueRun("d1 g1 w5", "d9 g1", "d1 g1 w6", "020");
        CardTabulator x = Check.deckOf("d1 g1 w5 h1 r1", "d1 g1 w9 h1 r1", "d1 g1 w6 h1 r1");
        x.mark(1, 1, 0);
        x.run();
        CHECK.dueText("reasons with a skipped card", Check.reasons(x, 3), "010");
        x.mark(1, 0, 0);
        x.repunch(1, 14, NONE);
        x.run();
        CHECK.dueText("reasons with a wrong check", Check.reasons(x, 3), "030");
    }

    private static void eachRunBeginsAnew() {
        CHECK.under("RUNNING: the latest card that was accepted in this run");
        CardTabulator x = Check.deckOf("d1 g1 w1 h1 r1", "d1 g1 w9 h1 r1");
        for (int i = 0; i < 3; i++) {
            CHECK.due("run()", x.run(), 2);
            CHECK.due("accepts(1)", x.accepts(1), 2);
            CHECK.dueText("reasons", Check.reasons(x, 2), "00");
        }
        CHECK.due("card(0, 9) behind a greater key", x.card(0, 9), 0);
    }

    private static void noSequenceRule() {
        CHECK.under("RUNNING: the sequence rule 0 refuses no card for its key");
        CardTabulator x = Check.deckOf("d9 g9 w9 h1 r1", "d0 g0 w0 h1 r1", "d9 g9 w8 h1 r1");
        x.set(0, 0);
        CHECK.due("run()", x.run(), 3);
        CHECK.dueText("reasons", Check.reasons(x, 3), "000");
    }

    private static void theRunStops() {
        CHECK.under("RUNNING: by the sequence rule 2 this card and the ones behind it have the reason 6");
        CardTabulator x = Check.deckOf("d1 g1 w2 h1 r1", "d1 g1 w1 h1 r1", "w1", "d1 g1 w3 h1 r1",
            "d1 g1 w4 h1 r1");
        x.set(0, 2);
        x.mark(3, 1, 0);
        CHECK.due("run()", x.run(), 1);
        CHECK.dueText("reasons", Check.reasons(x, 5), "06666");
        CHECK.due("told(2)", x.told(2), 1);
        CHECK.due("told(3)", x.told(3), 0);
        CHECK.dueText("kinds of lines", Check.kinds(x), "01234");
        x.take(1);
        CHECK.due("run() that stops nowhere", x.run(), 2);
        CHECK.dueText("reasons", Check.reasons(x, 4), "0210");
        x.move(0, 3);
        CHECK.due("run() that stops at the last card", x.run(), 1);
        CHECK.dueText("reasons", Check.reasons(x, 4), "2106");
        CHECK.due("told(3)", x.told(3), 2);
    }

    private static void otherReasonsDoNotStop() {
        CHECK.under("RUNNING: the reasons 1 to 4 don't stop a run");
        CardTabulator x = Check.deckOf("d1 g1 w2 h1 r1", "d1 g1 w1 h1 r1", "d1 g1", "d1 g1 w1 h1 r1",
            "d1 g1 w1 h9 r1", "d1 g1 w2 h1 r1");
        x.set(0, 2);
        x.set(2, 8);
        x.mark(1, 1, 0);
        x.repunch(3, 14, NONE);
        CHECK.due("run()", x.run(), 2);
        CHECK.dueText("reasons", Check.reasons(x, 6), "012340");
        CHECK.due("told(3)", x.told(3), 4);
    }

    private static void firstCardOfARun() {
        CHECK.under("RUNNING: the first card has no accepted card before it");
        for (int rule = 0; rule <= 2; rule++) {
            CardTabulator x = Check.deckOf("d0 g0 w0 h0 r0");
            x.set(0, rule);
            CHECK.due("run() by the rule " + rule, x.run(), 1);
            CHECK.due("reason(0) by the rule " + rule, x.reason(0), 0);
        }
    }

    // ---- Promises 12, 23 and 17

    private static void runOfNoCards() {
        CHECK.under("Promise 12, THE REPORT: of no cards only the last line is printed, with 0 in all its numbers");
        CardTabulator x = new CardTabulator();
        CHECK.due("run()", x.run(), 0);
        CHECK.due("told(1)", x.told(1), 1);
        CHECK.due("told(2)", x.told(2), 0);
        CHECK.due("told(3)", x.told(3), 0);
        CHECK.dueLine(x, 0, 4, NONE, NONE, NONE, 0, 0, 0, 0, NONE);
        CHECK.due("reason(0)", x.reason(0), BAD);
        CHECK.due("told(6)", x.told(6), 1);
    }

    private static void runOfFortyCards() {
        CHECK.under("Promise 12: of 40 cards");
        CardTabulator x = new CardTabulator();
        Check.type(x, "d1 g1 w1 h1 r10");
        for (int i = 0; i < 40; i++) {
            x.punch(0);
        }
        x.mark(39, 1, 0);
        CHECK.due("accepts(1)", x.accepts(1), 39);
        CHECK.due("run()", x.run(), 39);
        CHECK.due("reason(38)", x.reason(38), 0);
        CHECK.due("reason(39)", x.reason(39), 1);
        CHECK.due("reason(40)", x.reason(40), BAD);
        CHECK.due("line(39, 5)", x.line(39, 5), 39);
        CHECK.due("line(38, 8)", x.line(38, 8), 38);
        x.mark(39, 0, 0);
        CHECK.due("run() of all", x.run(), 40);
        CHECK.due("told(1)", x.told(1), 44);
    }

    private static void reasonAsks() {
        CHECK.under("Promise 23: BAD if there was no such card, or no run");
        CardTabulator x = Check.deckOf("d1 g1 w1 h1 r1", "w1");
        CHECK.due("reason(0) before a run", x.reason(0), BAD);
        x.run();
        for (int odd : ODD) {
            CHECK.due("reason(" + odd + ")", x.reason(odd), BAD);
        }
        CHECK.due("reason(2)", x.reason(2), BAD);
        CHECK.due("reason(0) of an accepted card", x.reason(0), 0);
        CHECK.due("reason(1)", x.reason(1), 2);
        CHECK.under("Promise 23: the number that the card had then");
        x.move(0, 1);
        CHECK.due("reason(1) behind move", x.reason(1), 2);
        x.take(0);
        CHECK.due("reason(1) behind take", x.reason(1), 2);
        x.punch(0);
        x.punch(0);
        CHECK.due("reason(2) behind punch", x.reason(2), BAD);
        x.take(0);
        x.take(0);
        x.run();
        CHECK.due("reason(1) of a run of one card", x.reason(1), BAD);
    }

    private static void refusedCards() {
        CHECK.under("Promise 17: 3 cards that the latest run refused for the reasons 1 to 5");
        CardTabulator x = Check.deckOf("d1 g1 w5 h1 r1", "d1 g1 w5 h1 r1", "d1", "d1 g1 w5 h1 r1",
            "d1 g1 w5 h9 r1", "d1 g1 w4 h1 r1");
        CHECK.due("told(3) before a run", x.told(3), 0);
        x.set(2, 8);
        x.mark(1, 1, 0);
        x.repunch(3, 14, NONE);
        x.run();
        CHECK.dueText("reasons", Check.reasons(x, 6), "012345");
        CHECK.due("told(3)", x.told(3), 5);
        CHECK.due("told(2)", x.told(2), 1);
        x.set(0, 2);
        x.run();
        CHECK.dueText("reasons", Check.reasons(x, 6), "012346");
        CHECK.due("told(3) without those of the reason 6", x.told(3), 4);
    }

    // ---- Promise 30

    private static void acceptsAsks() {
        CHECK.under("Promise 30: BAD if rule is out of range");
        CardTabulator x = Check.deckOf("d1 g1 w1 h1 r1");
        for (int odd : ODD) {
            CHECK.due("accepts(" + odd + ")", x.accepts(odd), BAD);
        }
        CHECK.due("accepts(3)", x.accepts(3), BAD);
        for (int rule = 0; rule <= 2; rule++) {
            CHECK.due("accepts(" + rule + ")", x.accepts(rule), 1);
            CHECK.due("accepts(" + rule + ") of no cards", new CardTabulator().accepts(rule), 0);
        }
    }

    private static void acceptsAsARun() {
        CHECK.under("Promise 30: in place of the setting, by the marks and settings as they are now");
        CardTabulator x = Check.deckOf("d1 g1 w2 h1 r1", "d1 g1 w1 h1 r1", "d1 g1 w3 h2 r1",
            "d1 g1 w2 h1 r1", "d1 g1 w4 h1 r1");
        int[] due = {5, 3, 1};
        for (int set = 0; set <= 2; set++) {
            x.set(0, set);
            for (int rule = 0; rule <= 2; rule++) {
                CHECK.due("accepts(" + rule + ") when " + set + " is set", x.accepts(rule), due[rule]);
            }
            CHECK.due("run() when " + set + " is set", x.run(), due[set]);
            CHECK.due("setting(0)", x.setting(0), set);
        }
        x.set(2, 1);
        CHECK.due("accepts(0) with less hours", x.accepts(0), 4);
        CHECK.due("accepts(1) with less hours", x.accepts(1), 3);
        x.mark(0, 1, 0);
        CHECK.due("accepts(2) with the first card skipped", x.accepts(2), 3);
        CHECK.due("told(2) of the latest run stays", x.told(2), 1);
    }
}
