import java.util.ArrayList;
import java.util.List;

/**
 * Boundary cases of the term CONVENTIONS: which error comes first, what a refused call leaves as it
 * was, when NONE is due, and how divisions are rounded.
 */
public final class ConventionsEdgesTest {
    private static final int BAD = CardTabulator.BAD, STATE = CardTabulator.STATE;
    private static final int FULL = CardTabulator.FULL, NONE = CardTabulator.NONE;
    private static final Check CHECK = new Check();

    private interface Call {
        int on(CardTabulator x);
    }

    private interface Recipe {
        CardTabulator make();
    }

    private static final class Refusal {
        final String name;
        final int want;
        final Call call;

        Refusal(String name, int want, Call call) {
            this.name = name;
            this.want = want;
            this.call = call;
        }
    }

    public static void main(String[] args) {
        codes();
        firstErrorOfPunch();
        firstErrorOfWrite();
        firstErrorOfBack();
        refusedChanges();
        refusedTextCalls();
        refusedPunch();
        refusedUndo();
        refusedQuestions();
        questionsChangeNothing();
        onlyTheFaultChanges();
        noneOnlyBehindErrors();
        wagesRoundDown();
        overtimeRoundsDown();
        CHECK.end("ConventionsEdgesTest");
    }

    private static void codes() {
        CHECK.under("CONVENTIONS: the error codes are -1000001, -1000002, -1000003, and NONE -1000009");
        CHECK.due("BAD", CardTabulator.BAD, -1000001);
        CHECK.due("STATE", CardTabulator.STATE, -1000002);
        CHECK.due("FULL", CardTabulator.FULL, -1000003);
        CHECK.due("NONE", CardTabulator.NONE, -1000009);
    }

    // ---- recipes

    /**
     * Three cards, one of them torn, a report, a full history, one image, two controls, a latest
     * fault (2 at 3), and a text that reads as a card.
     */
    private static CardTabulator rich() {
        CardTabulator x = Check.deckOf("d2 g1 w5 h500 r100", "d1 w4", "d3 g1 w3 h9 r9");
        x.keep(0);
        x.mark(2, 3, 20);
        x.control(0, 1);
        x.control(1, 9);
        x.lay(5, 14, 1);
        x.set(2, 998);
        x.run();
        x.set(3, 20);
        Check.type(x, "d1 d1");
        x.punch(0);
        Check.type(x, "h7");
        return x;
    }

    private static CardTabulator richWithFault() {
        CardTabulator x = rich();
        Check.type(x, "h7 w12x");
        return x;
    }

    private static CardTabulator fullDeck() {
        CardTabulator x = new CardTabulator();
        Check.type(x, "d1 g1 w0 h1 r1");
        for (int i = 0; i < 40; i++) {
            x.punch(i);
        }
        for (int i = 0; i < 40; i++) {
            x.repunch(i, 5, i / 10);
            x.repunch(i, 6, i % 10);
        }
        return x;
    }

    private static CardTabulator fullDeckWithFault() {
        CardTabulator x = fullDeck();
        x.write('?');
        return x;
    }

    private static CardTabulator fullText() {
        CardTabulator x = new CardTabulator();
        Check.type(x, " ".repeat(46) + "w987");
        return x;
    }

    // ---- if several of them apply, the first one in this list is returned

    private static void firstErrorOfPunch() {
        CHECK.under("CONVENTIONS, Promise 5: BAD before STATE before FULL");
        CardTabulator x = new CardTabulator();
        CHECK.due("BAD and STATE: punch(1)", x.punch(1), BAD);
        CHECK.due("BAD and STATE: punch(-1)", x.punch(-1), BAD);
        CHECK.due("no STATE was returned: fault(0)", x.fault(0), NONE);
        CHECK.due("STATE alone: punch(0)", x.punch(0), STATE);
        CardTabulator full = fullDeck();
        CHECK.due("BAD and FULL: punch(41)", full.punch(41), BAD);
        CHECK.due("BAD and FULL: punch(-1)", full.punch(-1), BAD);
        CHECK.due("FULL alone: punch(40)", full.punch(40), FULL);
        full.write('?');
        CHECK.due("STATE and FULL: punch(0)", full.punch(0), STATE);
        CHECK.due("STATE and FULL: punch(40)", full.punch(40), STATE);
        CHECK.due("BAD, STATE and FULL: punch(41)", full.punch(41), BAD);
        CHECK.due("BAD, STATE and FULL: punch(-1)", full.punch(-1), BAD);
    }

    private static void firstErrorOfWrite() {
        CHECK.under("CONVENTIONS, Promise 14: BAD before FULL");
        CardTabulator x = fullText();
        CHECK.due("BAD and FULL: write(31)", x.write(31), BAD);
        CHECK.due("BAD and FULL: write(127)", x.write(127), BAD);
        CHECK.due("FULL alone: write(32)", x.write(32), FULL);
        CHECK.due("FULL alone: write(126)", x.write(126), FULL);
    }

    private static void firstErrorOfBack() {
        CHECK.under("CONVENTIONS, Promise 32: BAD before STATE");
        CardTabulator x = new CardTabulator();
        CHECK.due("back(-1) when nothing was kept", x.back(-1), BAD);
        CHECK.due("back(2) when nothing was kept", x.back(2), BAD);
        CHECK.due("STATE alone: back(0)", x.back(0), STATE);
        CHECK.due("STATE alone: back(1)", x.back(1), STATE);
    }

    // ---- a call that returns one of them changes nothing, except the latest fault

    /** Two objects are made alike, and one of them gets the call: they tell the same behind it. */
    private static void dueUnchanged(Recipe recipe, Refusal refusal) {
        for (int part = 0; part < Whole.PARTS; part++) {
            CardTabulator x = recipe.make();
            CHECK.due(refusal.name, refusal.call.on(x), refusal.want);
            CHECK.dueText("all that is told, part " + part + ", behind " + refusal.name,
                Whole.part(x, part), Whole.part(recipe.make(), part));
        }
    }

    private static void addWrong(List<Refusal> all, String name, Call call) {
        all.add(new Refusal(name, BAD, call));
    }

    private static void refusedChanges() {
        CHECK.under("CONVENTIONS: a call that returns BAD or STATE changes nothing");
        List<Refusal> all = new ArrayList<>();
        int[][] triples = {{-1, 0, 1}, {6, 0, 1}, {0, -1, 1}, {0, 24, 1}, {0, 23, 2}, {0, 21, 4},
            {0, 0, 0}, {0, 0, 5}, {5, 0, 0}, {5, 0, 2}};
        for (int[] a : triples) {
            addWrong(all, "lay(" + a[0] + ", " + a[1] + ", " + a[2] + ")",
                x -> x.lay(a[0], a[1], a[2]));
        }
        int[][] settings = {{-1, 0}, {4, 0}, {0, -1}, {0, 3}, {1, -1}, {1, 2}, {2, -1}, {2, 10000},
            {3, -1}, {3, 10000}};
        for (int[] a : settings) {
            addWrong(all, "set(" + a[0] + ", " + a[1] + ")", x -> x.set(a[0], a[1]));
        }
        int[][] controls = {{-1, 0}, {3, 0}, {-1, NONE}, {3, NONE}, {0, -1}, {0, 1000001},
            {0, NONE + 1}, {0, NONE - 1}};
        for (int[] a : controls) {
            addWrong(all, "control(" + a[0] + ", " + a[1] + ")", x -> x.control(a[0], a[1]));
        }
        for (int card : new int[] {-1, 3}) {
            addWrong(all, "take(" + card + ")", x -> x.take(card));
            addWrong(all, "move(" + card + ", 0)", x -> x.move(card, 0));
            addWrong(all, "move(0, " + card + ")", x -> x.move(0, card));
            addWrong(all, "repunch(" + card + ", 0, 0)", x -> x.repunch(card, 0, 0));
            addWrong(all, "mark(" + card + ", 1, 0)", x -> x.mark(card, 1, 0));
        }
        for (int column : new int[] {-1, 24}) {
            addWrong(all, "repunch(0, " + column + ", 0)", x -> x.repunch(0, column, 0));
            addWrong(all, "mark(0, 1, " + column + ")", x -> x.mark(0, 1, column));
            addWrong(all, "pass(" + column + ")", x -> x.pass(column));
        }
        for (int digit : new int[] {-1, 10, NONE - 1, NONE + 1}) {
            addWrong(all, "repunch(0, 0, " + digit + ")", x -> x.repunch(0, 0, digit));
        }
        for (int mark : new int[] {-1, 4}) {
            addWrong(all, "mark(0, " + mark + ", 5)", x -> x.mark(0, mark, 5));
        }
        for (int field : new int[] {-1, 6}) {
            addWrong(all, "sort(" + field + ")", x -> x.sort(field));
        }
        for (int image : new int[] {-1, 2}) {
            addWrong(all, "keep(" + image + ")", x -> x.keep(image));
            addWrong(all, "back(" + image + ")", x -> x.back(image));
        }
        all.add(new Refusal("back(1) of nothing", STATE, x -> x.back(1)));
        for (Refusal refusal : all) {
            dueUnchanged(ConventionsEdgesTest::rich, refusal);
        }
    }

    private static void refusedTextCalls() {
        CHECK.under("CONVENTIONS, Promise 14: a call of write that is refused changes nothing");
        for (int code : new int[] {31, 127, -1, 0, 256 + 'd', Integer.MIN_VALUE, Integer.MAX_VALUE}) {
            dueUnchanged(ConventionsEdgesTest::rich,
                new Refusal("write(" + code + ")", BAD, x -> x.write(code)));
        }
        for (int code : new int[] {32, '0', 'd', 126}) {
            dueUnchanged(ConventionsEdgesTest::fullText,
                new Refusal("write(" + code + ") into a full text", FULL, x -> x.write(code)));
        }
        dueUnchanged(ConventionsEdgesTest::fullText,
            new Refusal("write(31) into a full text", BAD, x -> x.write(31)));
    }

    private static void refusedPunch() {
        CHECK.under("CONVENTIONS, Promise 5: a call of punch that is refused changes nothing");
        for (int place : new int[] {-1, 4, 41, Integer.MIN_VALUE, Integer.MAX_VALUE}) {
            dueUnchanged(ConventionsEdgesTest::rich,
                new Refusal("punch(" + place + ")", BAD, x -> x.punch(place)));
            dueUnchanged(ConventionsEdgesTest::richWithFault,
                new Refusal("punch(" + place + ") of a text with a fault", BAD,
                    x -> x.punch(place)));
        }
        for (int place : new int[] {0, 40}) {
            dueUnchanged(ConventionsEdgesTest::fullDeck,
                new Refusal("punch(" + place + ") into 40 cards", FULL, x -> x.punch(place)));
        }
        dueUnchanged(ConventionsEdgesTest::fullDeckWithFault,
            new Refusal("punch(41) of a text with a fault, into 40 cards", BAD, x -> x.punch(41)));
    }

    private static void refusedUndo() {
        CHECK.under("CONVENTIONS, Promise 13: a call of undo that is refused changes nothing");
        dueUnchanged(CardTabulator::new, new Refusal("undo()", STATE, CardTabulator::undo));
        dueUnchanged(() -> {
            CardTabulator x = rich();
            for (int i = 0; i < 8; i++) {
                x.undo();
            }
            return x;
        }, new Refusal("undo() behind eight", STATE, CardTabulator::undo));
    }

    private static void refusedQuestions() {
        CHECK.under("CONVENTIONS: a question that is refused changes nothing");
        List<Refusal> all = new ArrayList<>();
        for (int what : new int[] {-1, 99}) {
            addWrong(all, "fault(" + what + ")", x -> x.fault(what));
            addWrong(all, "told(" + what + ")", x -> x.told(what));
            addWrong(all, "setting(" + what + ")", x -> x.setting(what));
            addWrong(all, "field(0, " + what + ")", x -> x.field(0, what));
            addWrong(all, "column(0, " + what + ")", x -> x.column(0, what));
            addWrong(all, "card(0, " + what + ")", x -> x.card(0, what));
            addWrong(all, "line(0, " + what + ")", x -> x.line(0, what));
            addWrong(all, "reason(" + what + ")", x -> x.reason(what));
            addWrong(all, "differs(" + what + ")", x -> x.differs(what));
            addWrong(all, "again(0, " + what + ")", x -> x.again(0, what));
            addWrong(all, "ranked(0, " + what + ")", x -> x.ranked(0, what));
            addWrong(all, "accepts(" + what + ")", x -> x.accepts(what));
        }
        for (Refusal refusal : all) {
            dueUnchanged(ConventionsEdgesTest::rich, refusal);
        }
    }

    private static void questionsChangeNothing() {
        CHECK.under("CHANGES: only the methods that are called changes change the state");
        for (int part = 0; part < Whole.PARTS; part++) {
            CardTabulator x = rich();
            askAll(x);
            CHECK.dueText("all that is told, part " + part + ", behind each question",
                Whole.part(x, part), Whole.part(rich(), part));
        }
    }

    private static void askAll(CardTabulator x) {
        for (int i = 0; i < 7; i++) {
            x.told(i);
            x.accepts(i);
            x.differs(i);
            x.card(2, 3 + i);
            x.again(-1, i);
            x.ranked(i, 3);
            x.reason(i);
        }
        x.fault(0);
        x.setting(0);
        x.field(0, 0);
        x.column(0, 0);
        x.line(0, 0);
        x.agrees();
        x.passes();
        x.mean();
    }

    private static void onlyTheFaultChanges() {
        CHECK.under("CONVENTIONS, Promise 16: a punch that returns STATE changes the latest fault alone");
        for (int part = 1; part < Whole.PARTS; part++) {
            CardTabulator x = richWithFault();
            CardTabulator y = richWithFault();
            if (part == 2 || part == 3) {
                // These parts tell the latest fault, which is the same behind the same fault.
                y.punch(0);
            }
            CHECK.due("punch(3)", x.punch(3), STATE);
            CHECK.dueText("all that is told, part " + part, Whole.part(x, part), Whole.part(y, part));
        }
        CardTabulator x = richWithFault();
        CHECK.due("fault(0) before it", x.fault(0), 2);
        CHECK.due("fault(1) before it", x.fault(1), 3);
        x.punch(3);
        CHECK.due("fault(0) behind it", x.fault(0), 1);
        CHECK.due("fault(1) behind it", x.fault(1), 6);
        CHECK.due("cards behind it", x.told(0), 3);
        CHECK.due("changes behind it", x.told(6), 8);
        CHECK.due("bytes behind it", x.told(5), 7);
        x.punch(4);
        CHECK.due("fault(1) behind BAD", x.fault(1), 6);
    }

    // ---- NONE is returned only if no error code applies

    private static void noneOnlyBehindErrors() {
        CHECK.under("CONVENTIONS: NONE is returned only if no error code applies");
        CardTabulator x = new CardTabulator();
        CHECK.due("fault(2) without a fault", x.fault(2), BAD);
        CHECK.due("fault(-1) without a fault", x.fault(-1), BAD);
        CHECK.due("differs(3) without a run", x.differs(3), BAD);
        CHECK.due("differs(-1) without a run", x.differs(-1), BAD);
        CHECK.due("ranked(-1, 0) without keys", x.ranked(-1, 0), BAD);
        CHECK.due("ranked(0, 4) without keys", x.ranked(0, 4), BAD);
        CHECK.due("ranked(0, -1) without keys", x.ranked(0, -1), BAD);
        CHECK.due("control(3, NONE) when none is told", x.control(3, NONE), BAD);
        CHECK.due("control(0, -1) when none is told", x.control(0, -1), BAD);
        Check.punchAll(x, "w1");
        CHECK.due("card(1, 0) behind a card without a department", x.card(1, 0), BAD);
        CHECK.due("column(1, 0) behind a card with a blank", x.column(1, 0), BAD);
        CHECK.due("column(0, 24)", x.column(0, 24), BAD);
        CHECK.due("repunch(0, 0, 10) of a blank", x.repunch(0, 0, 10), BAD);
        x.run();
        CHECK.due("line(1, 1) behind the last line", x.line(1, 1), BAD);
        CHECK.due("line(0, 9) of the last line", x.line(0, 9), BAD);
    }

    // ---- divisions round down

    private static void wagesRoundDown() {
        CHECK.under("CONVENTIONS, RUNNING: hours * rate / 10 rounds down");
        int[][] due = {{1, 9, 0}, {1, 10, 1}, {1, 19, 1}, {1, 20, 2}, {3, 3, 0}, {7, 7, 4}, {0, 9999, 0},
            {999, 1, 99}, {999, 9999, 998900}};
        for (int[] a : due) {
            CardTabulator x = Check.deckOf("d1 g1 w1 h" + a[0] + " r" + a[1]);
            x.set(3, 9999);
            x.run();
            CHECK.due("wage of " + a[0] + " * " + a[1], x.line(0, 6), a[2]);
        }
        CardTabulator x = Check.deckOf("d1 g1 w1 h1 r9", "d1 g1 w1 h1 r9");
        x.run();
        CHECK.due("wages of two cards, each rounded: the worker's line", x.line(2, 6), 0);
        CHECK.due("wages of two cards, each rounded: again(-1, 2)", x.again(-1, 2), 0);
    }

    private static void overtimeRoundsDown() {
        CHECK.under("CONVENTIONS, THE REPORT: (hours - limit) * rate / 20 rounds down");
        int[][] due = {{1, 19, 0}, {1, 20, 1}, {1, 39, 1}, {1, 40, 2}, {3, 13, 1}, {19, 1, 0}};
        for (int[] a : due) {
            CardTabulator x = Check.deckOf("d1 g1 w1 h" + a[0] + " r" + a[1]);
            x.set(3, 0);
            x.run();
            CHECK.due("overtime of " + a[0] + " * " + a[1], x.line(1, 7), a[2]);
            CHECK.due("again(-1, 3) of " + a[0] + " * " + a[1], x.again(-1, 3), a[2]);
        }
        CardTabulator x = Check.deckOf("d1 g1 w1 h1 r19", "d1 g1 w2 h1 r19");
        x.set(3, 0);
        x.run();
        CHECK.due("overtime of two workers, each rounded: the last line", x.line(x.told(1) - 1, 7), 0);
        CHECK.due("overtime of two workers, each rounded: again(-1, 3)", x.again(-1, 3), 0);
    }
}
