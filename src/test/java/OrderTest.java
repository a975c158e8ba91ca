/** Promises 17, 29 and 30: told, above all of the order of keys, passes, accepts. */
public final class OrderTest {
    private static final int BAD = CardTabulator.BAD, NONE = CardTabulator.NONE;
    private static final Check CHECK = new Check();

    public static void main(String[] args) {
        told();
        order();
        passesByEachColumn();
        passes();
        accepts();
        CHECK.end("OrderTest");
    }

    private static void told() {
        CardTabulator x = Check.deckOf("d1 g1 w1 h1 r1", "d1 g1 w1 h1 r1", "w1");
        int[] before = {3, 0, NONE, 0, 1, 2, 3};
        for (int what = 0; what < before.length; what++) {
            CHECK.due("told(" + what + ") before a run", x.told(what), before[what]);
        }
        x.run();
        int[] behind = {3, 6, 2, 1, 1, 2, 4};
        for (int what = 0; what < behind.length; what++) {
            CHECK.due("told(" + what + ") behind a run", x.told(what), behind[what]);
        }
        CHECK.due("told(-1)", x.told(-1), BAD);
        CHECK.due("told(7)", x.told(7), BAD);
        for (int i = 5; i <= 20; i++) {
            x.set(3, i);
            CHECK.due("told(6) of many changes", x.told(6), Math.min(i, 8));
        }
    }

    private static void order() {
        CardTabulator x = Check.deckOf("d1 g1 w1", "d1 g1 w1", "d1 g1 w2", "d1 g2 w1", "d2 g1 w1");
        CHECK.due("told(4) of a deck in order", x.told(4), 1);
        for (int card = 1; card < 4; card++) {
            x.move(card, card + 1);
            CHECK.due("told(4) with card " + card + " behind the next", x.told(4), 0);
            x.undo();
        }
        x.move(0, 1);
        CHECK.due("told(4) of equal keys", x.told(4), 1);
        x.move(4, 0);
        x.mark(0, 1, 0);
        CHECK.due("told(4) does not look at marks", x.told(4), 0);
        x.repunch(0, 6, NONE);
        CHECK.due("told(4) passes over a card without a worker", x.told(4), 1);
        x.repunch(0, 6, 1);
        x.repunch(0, 2, NONE);
        CHECK.due("told(4) passes over a card without a group", x.told(4), 1);
        x.repunch(0, 2, 0);
        x.repunch(0, 1, NONE);
        CHECK.due("told(4) passes over a card without a department", x.told(4), 1);
        CHECK.due("passes() passes over it too", x.passes(), 0);
        x.move(4, 1);
        CHECK.due("told(4) compares over a card between", x.told(4), 0);
    }

    private static void passesByEachColumn() {
        String[] greater = {"d10 g00 w000", "d01 g00 w000", "d00 g10 w000", "d00 g01 w000",
            "d00 g00 w100", "d00 g00 w010", "d00 g00 w001"};
        for (int i = 0; i < greater.length; i++) {
            CardTabulator x = Check.deckOf(greater[i], "d0 g0 w0");
            CHECK.due("passes() with " + greater[i] + " first", x.passes(), i + 1);
            x.move(0, 1);
            CHECK.due("passes() with " + greater[i] + " last", x.passes(), 0);
        }
    }

    private static void passes() {
        CardTabulator x = new CardTabulator();
        CHECK.due("passes() of no cards", x.passes(), 0);
        x.lay(0, 0, 4);
        x.lay(1, 4, 4);
        x.lay(2, 8, 4);
        Check.punchAll(x, "d3 g1 w2", "d3 g1 w1", "d1 g2 w9");
        CHECK.due("passes() of wide fields", x.passes(), 12);
        CHECK.dueWorkers("passes()", x, "2 1 9");
        CHECK.due("told(6) behind passes()", x.told(6), 6);
        x.lay(2, 11, 1);
        CHECK.due("passes() of a narrow worker", x.passes(), 9);
        x.sort(2);
        CHECK.due("passes() when sorted by the worker", x.passes(), 4);
        x.sort(1);
        CHECK.due("passes() when sorted by the group", x.passes(), 4);
        x.sort(0);
        CHECK.due("passes() when sorted by all", x.passes(), 0);

        // Four passes, by the group and the department, leave the workers of a group as they are.
        CardTabulator y = Check.deckOf("d1 g3 w1", "d1 g2 w1", "d1 g2 w2");
        CHECK.due("passes() that keep the order of workers", y.passes(), 4);
        y.move(1, 2);
        CHECK.due("passes() that must sort the workers", y.passes(), 7);
        y.repunch(1, 5, NONE);
        CHECK.due("passes() with a blank worker", y.passes(), 4);
    }

    private static void accepts() {
        CardTabulator x = Check.deckOf("d1 g1 w2 h1 r1", "d1 g1 w1 h1 r1", "d1 g1 w3 h1 r1",
            "d1 g1 w2 h1 r1", "w4");
        CHECK.due("accepts(0)", x.accepts(0), 4);
        CHECK.due("accepts(1)", x.accepts(1), 2);
        CHECK.due("accepts(2)", x.accepts(2), 1);
        CHECK.due("accepts(-1)", x.accepts(-1), BAD);
        CHECK.due("accepts(3)", x.accepts(3), BAD);
        CHECK.due("setting(0) stays", x.setting(0), 1);
        CHECK.due("told(1): no report", x.told(1), 0);
        CHECK.due("told(2): no run", x.told(2), NONE);
        CHECK.due("told(6): no change", x.told(6), 5);
        x.run();
        x.mark(0, 1, 0);
        CHECK.due("accepts(2) of a marked card", x.accepts(2), 2);
        CHECK.due("told(2) stays", x.told(2), 2);
        CHECK.due("reason(0) stays", x.reason(0), 0);
        x.repunch(1, 14, NONE);
        CHECK.due("accepts(0) with checks", x.accepts(0), 2);
        x.set(1, 0);
        CHECK.due("accepts(0) without checks", x.accepts(0), 3);
        CHECK.due("accepts(0) of no cards", new CardTabulator().accepts(0), 0);
    }
}
