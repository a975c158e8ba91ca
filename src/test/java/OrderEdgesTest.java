/** Boundary cases of promises 17 and 29: what is told, the order of keys, and the fewest passes. */
public final class OrderEdgesTest {
    private static final int BAD = CardTabulator.BAD, NONE = CardTabulator.NONE;
    private static final Check CHECK = new Check();

    public static void main(String[] args) {
        toldAsks();
        leastAndMostThatIsTold();
        reportOfNoRun();
        orderOfFewCards();
        equalKeysAreInOrder();
        keysAreComparedInOrder();
        cardsWithoutAKey();
        cardsWithoutHours();
        orderAsPunched();
        orderOfWideKeys();
        passesOfADeckInOrder();
        eachNumberOfPasses();
        fewestAndMostPasses();
        passesAreTheLastOnes();
        passesOverCardsWithoutAKey();
        passesOfSharedColumns();
        passesOfAFullDeck();
        passesChangeNothing();
        CHECK.end("OrderEdgesTest");
    }

    // ---- Promise 17

    private static void toldAsks() {
        CHECK.under("Promise 17: BAD if what is out of range");
        CardTabulator x = new CardTabulator();
        for (int what : new int[] {-1, 7, NONE, Integer.MIN_VALUE, Integer.MAX_VALUE}) {
            CHECK.due("told(" + what + ")", x.told(what), BAD);
        }
    }

    private static void leastAndMostThatIsTold() {
        CHECK.under("Promise 17: 0 cards; 1 lines; 5 bytes; 6 changes, from none to the most");
        CardTabulator x = new CardTabulator();
        for (int what : new int[] {0, 1, 3, 5, 6}) {
            CHECK.due("told(" + what + ") of a new object", x.told(what), 0);
        }
        Check.type(x, "d1 g1 w1 h1 r1" + " ".repeat(36));
        CHECK.due("told(5) of a full text", x.told(5), 50);
        for (int i = 1; i <= 40; i++) {
            x.punch(0);
            CHECK.due("told(0)", x.told(0), i);
            CHECK.due("told(6)", x.told(6), Math.min(i, 8));
        }
        x.run();
        CHECK.due("told(1)", x.told(1), 44);
        CHECK.due("told(2)", x.told(2), 40);
        x.wipe();
        CHECK.due("told(5)", x.told(5), 0);
    }

    private static void reportOfNoRun() {
        CHECK.under("Promise 17: 2 is NONE if there was no run; 3 is 0 then");
        CardTabulator x = Check.deckOf("w1");
        CHECK.due("told(2) before a run", x.told(2), NONE);
        CHECK.due("told(3) before a run", x.told(3), 0);
        x.run();
        CHECK.due("told(2) of no accepted card", x.told(2), 0);
        CHECK.due("told(3)", x.told(3), 1);
        x.undo();
        CHECK.due("told(2) behind undo", x.told(2), NONE);
        CHECK.due("told(3) behind undo", x.told(3), 0);
    }

    private static void dueOrder(int want, String... keys) {
        CHECK.due("told(4) of " + String.join(", ", keys), Check.deckOf(keys).told(4), want);
    }

    private static void orderOfFewCards() {
        CHECK.under("Promise 17: 4 no card and one card are in order");
        dueOrder(1);
        dueOrder(1, "d9 g9 w9");
        dueOrder(1, "d9");
    }

    private static void equalKeysAreInOrder() {
        CHECK.under("Promise 17: 4 equal keys are in order");
        dueOrder(1, "d1 g1 w1", "d1 g1 w1");
        dueOrder(1, "d0 g0 w0", "d0 g0 w0", "d0 g0 w0");
        dueOrder(1, "d1 g1 w1", "d1 g1 w2", "d1 g1 w2");
        dueOrder(0, "d1 g1 w2", "d1 g1 w2", "d1 g1 w1");
        dueOrder(0, "d1 g1 w1", "d1 g1 w0");
    }

    private static void keysAreComparedInOrder() {
        CHECK.under("Promise 17: 4 the order of keys: department, group and worker, compared in this order");
        dueOrder(1, "d1 g99 w999", "d2 g0 w0");
        dueOrder(0, "d2 g0 w0", "d1 g99 w999");
        dueOrder(1, "d1 g1 w999", "d1 g2 w0");
        dueOrder(0, "d1 g2 w0", "d1 g1 w999");
        dueOrder(0, "d1 g1 w1", "d1 g1 w3", "d1 g1 w2", "d1 g1 w4");
    }

    private static void cardsWithoutAKey() {
        CHECK.under("Promise 17: 4 cards without a value in the fields 0 to 2 are passed over");
        String[] without = {"g9 w9", "d9 w9", "d9 g9", "d0 g0", "d0 w0", "g0 w0", "h1"};
        for (String text : without) {
            dueOrder(1, "d1 g1 w1", text, "d1 g1 w2");
            dueOrder(0, "d1 g1 w2", text, "d1 g1 w1");
            dueOrder(1, text, "d1 g1 w1");
            dueOrder(1, "d1 g1 w1", text);
            dueOrder(1, text, text);
        }
    }

    private static void cardsWithoutHours() {
        CHECK.under("Promise 17: 4 the fields 0 to 2 alone count, not hours, rate and check");
        dueOrder(0, "d1 g1 w2", "d1 g1 w1 h1 r1");
        dueOrder(1, "d1 g1 w1 h9 r9", "d1 g1 w2 h1 r1");
        CardTabulator x = Check.deckOf("d1 g1 w2", "d1 g1 w1");
        x.repunch(0, 14, NONE);
        CHECK.due("told(4) without a check", x.told(4), 0);
    }

    private static void orderAsPunched() {
        CHECK.under("Promise 17: 4 the deck is looked at, not how it is fed");
        CardTabulator x = Check.deckOf("d1 g1 w2", "d1 g1 w1");
        for (int mark = 1; mark <= 3; mark++) {
            x.mark(0, mark, 6);
            CHECK.due("told(4) with the mark " + mark, x.told(4), 0);
            CHECK.due("passes() with the mark " + mark, x.passes(), 7);
        }
    }

    private static void orderOfWideKeys() {
        CHECK.under("Promise 17: 4 of the widest fields");
        CardTabulator x = new CardTabulator();
        for (int field = 0; field < 3; field++) {
            x.lay(field, 4 * field, 4);
        }
        Check.punchAll(x, "d0 g9999 w9999", "d1 g0 w0", "d1 g0 w9999", "d1 g1 w0", "d9999 g9999 w9999");
        CHECK.due("told(4)", x.told(4), 1);
        for (int card = 0; card < 4; card++) {
            x.move(card, card + 1);
            CHECK.due("told(4) with card " + card + " behind the next", x.told(4), 0);
            x.undo();
        }
    }

    // ---- Promise 29

    private static void duePasses(int want, String... keys) {
        CHECK.due("passes() of " + String.join(", ", keys), Check.deckOf(keys).passes(), want);
    }

    private static void passesOfADeckInOrder() {
        CHECK.under("Promise 29: 0 if the deck is in order");
        duePasses(0);
        duePasses(0, "d9 g9 w9");
        duePasses(0, "d1");
        duePasses(0, "d1 g1 w1", "d1 g1 w1");
        duePasses(0, "d1 g1 w1", "d1 g1 w2", "d2 g0 w0");
    }

    private static void eachNumberOfPasses() {
        CHECK.under("Promise 29: the passes that are made are the last ones of this sequence");
        String[] firsts = {"d10", "d1", "d0 g10", "d0 g1", "d0 g0 w100", "d0 g0 w10", "d0 g0 w1"};
        String[] seconds = {"d0 g9 w9", "d0 g9 w9", "d0 g9 w9", "d0 g0 w99", "d0 g0 w99", "d0 g0 w9",
            "d0 g0 w0"};
        String[] rests = {" g0 w0", " g0 w0", " w0", " w0", "", "", ""};
        for (int i = 0; i < 7; i++) {
            duePasses(i + 1, firsts[i] + rests[i], seconds[i]);
        }
    }

    private static void fewestAndMostPasses() {
        CHECK.under("Promise 29: from 1 pass up to as many as the fields 0 to 2 are wide");
        for (int width = 1; width <= 4; width++) {
            CardTabulator x = new CardTabulator();
            for (int field = 0; field < 3; field++) {
                x.lay(field, 4 * field, width);
            }
            Check.punchAll(x, "d0 g0 w1", "d0 g0 w0");
            CHECK.due("passes() of fields " + width + " wide", x.passes(), 3 * width);
            x.repunch(0, 0, 1);
            CHECK.due("passes() by the first column", x.passes(), 1);
        }
        CardTabulator x = new CardTabulator();
        x.lay(0, 23, 1);
        x.lay(1, 22, 1);
        x.lay(2, 18, 4);
        Check.punchAll(x, "d0 g0 w1000", "d0 g0 w0999");
        CHECK.due("passes() by the first column of the worker", x.passes(), 3);
        x.repunch(1, 18, 1);
        x.repunch(1, 21, 0);
        CHECK.due("passes() when that one is in order", x.passes(), 0);
        x.repunch(0, 21, 1);
        x.repunch(1, 19, 0);
        x.repunch(1, 20, 0);
        CHECK.due("passes() by the last column of the worker", x.passes(), 6);
    }

    private static void passesAreTheLastOnes() {
        CHECK.under("Promise 29: by the columns of the fields 2, 1 and 0, each from its last to its first column");
        // One pass brings d1 before d2, and leaves the workers as they are.
        duePasses(2, "d2 g1 w1", "d1 g1 w1", "d1 g1 w2");
        // The workers of d1 are not in order: all passes down to the last column of the worker.
        duePasses(7, "d2 g1 w1", "d1 g1 w2", "d1 g1 w1");
        duePasses(6, "d2 g1 w1", "d1 g1 w20", "d1 g1 w11");
        duePasses(3, "d1 g20 w1", "d1 g10 w9", "d1 g10 w9");
        duePasses(4, "d1 g12 w1", "d1 g11 w9", "d2 g0 w0");
        duePasses(1, "d20 g9 w9", "d10 g9 w9", "d11 g0 w0");
        duePasses(2, "d20 g9 w9", "d11 g9 w9", "d10 g0 w0");
    }

    private static void passesOverCardsWithoutAKey() {
        CHECK.under("Promise 29: in the order of keys, as told(4) tells it");
        duePasses(0, "d9 g9", "d1 g1 w1", "d0 w9", "d1 g1 w2");
        duePasses(7, "d9 g9", "d1 g1 w2", "d0 w9", "d1 g1 w1");
        CardTabulator x = Check.deckOf("d1 g1 w2", "d1 g1 w1");
        for (int column = 0; column <= 6; column++) {
            int was = x.repunch(0, column, NONE);
            CHECK.due("passes() with a blank in column " + column, x.passes(), 0);
            x.repunch(0, column, was);
        }
        x.repunch(0, 7, 0);
        CHECK.due("passes() with a blank where the key is not", x.passes(), 7);
    }

    private static void passesOfSharedColumns() {
        CHECK.under("Promise 29: fields that share columns");
        CardTabulator x = new CardTabulator();
        for (int field = 0; field < 3; field++) {
            x.lay(field, 0, 2);
        }
        Check.punchAll(x, "w21", "w12", "w11", "w20");
        CHECK.due("passes()", x.passes(), 2);
        x.sort(0);
        CHECK.dueWorkers("sort(0)", x, "11 12 20 21");
        CHECK.due("passes() when sorted", x.passes(), 0);
    }

    private static void passesOfAFullDeck() {
        CHECK.under("Promise 29: of 40 cards");
        CardTabulator x = new CardTabulator();
        Check.type(x, "d1 g1 w0");
        for (int i = 0; i < 40; i++) {
            x.punch(i);
        }
        CHECK.due("passes() of equal keys", x.passes(), 0);
        for (int i = 0; i < 40; i++) {
            x.repunch(i, 5, (39 - i) / 10);
            x.repunch(i, 6, (39 - i) % 10);
        }
        CHECK.due("passes() of keys from behind", x.passes(), 7);
        CHECK.due("told(4)", x.told(4), 0);
        x.sort(2);
        CHECK.due("passes() when sorted", x.passes(), 0);
        x.repunch(39, 6, 0);
        CHECK.due("told(4) with the last card alone out of order", x.told(4), 0);
        CHECK.due("passes() with the last card alone out of order", x.passes(), 7);
        x.repunch(39, 5, 2);
        x.repunch(39, 6, 9);
        CHECK.due("passes() with the last card out of order by tens", x.passes(), 6);
    }

    private static void passesChangeNothing() {
        CHECK.under("Promise 29: the deck stays as it is");
        CardTabulator x = Check.deckOf("d2 g1 w3", "d1 g1 w2", "d1 g1 w1");
        CHECK.due("passes()", x.passes(), 7);
        CHECK.dueWorkers("passes()", x, "3 2 1");
        CHECK.due("passes() again", x.passes(), 7);
        CHECK.due("told(6)", x.told(6), 3);
        CHECK.due("told(4)", x.told(4), 0);
    }
}
