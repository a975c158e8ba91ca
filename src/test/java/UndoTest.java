/** Promises 13, 31 and 32: undo, keep, back. */
public final class UndoTest {
    private static final int BAD = CardTabulator.BAD, STATE = CardTabulator.STATE;
    private static final int NONE = CardTabulator.NONE;
    private static final Check CHECK = new Check();

    public static void main(String[] args) {
        undoEach();
        undoOfReport();
        atMostEight();
        textAndFaultStay();
        errorsAreNoChanges();
        images();
        imagesAreApart();
        CHECK.end("UndoTest");
    }

    /** Everything that is told of a state, one number behind the other. */
    private static String whole(CardTabulator x) {
        StringBuilder told = new StringBuilder();
        for (int i = 0; i < 5; i++) {
            told.append(x.told(i)).append(' ');
        }
        for (int i = 0; i < 4; i++) {
            told.append(x.setting(i)).append(' ');
        }
        for (int i = 0; i < 6; i++) {
            told.append(x.field(i, 0)).append(' ').append(x.field(i, 1)).append(' ');
        }
        for (int i = 0; i < 3; i++) {
            told.append(x.differs(i)).append(' ');
        }
        for (int i = 0; i < x.told(0); i++) {
            for (int what = 0; what < 10; what++) {
                told.append(x.card(i, what)).append(' ');
            }
        }
        for (int i = 0; i < x.told(1); i++) {
            told.append(x.line(i, 4)).append(' ').append(x.line(i, 6)).append(' ');
        }
        return told.append(x.reason(0)).append(x.reason(1)).append(x.again(-1, 2)).toString();
    }

    private static CardTabulator threeCards() {
        CardTabulator x = Check.deckOf("d2 g1 w5 h500 r100", "d1 g1 w4 h9 r9", "d3 w3");
        x.control(0, 1);
        x.run();
        return x;
    }

    private static int change(CardTabulator x, int kind) {
        switch (kind) {
            case 0: return x.lay(0, 20, 1);
            case 1: return x.set(0, 0);
            case 2: return x.control(0, 7);
            case 3: return x.punch(0);
            case 4: return x.take(0);
            case 5: return x.move(0, 2);
            case 6: return x.repunch(1, 0, 8);
            case 7: return x.mark(0, 1, 5);
            case 8: return x.pass(1);
            case 9: return x.sort(2);
            case 10: x.set(3, 0); return x.run();
            case 11: return x.back(0);
            default: return BAD;
        }
    }

    private static void undoEach() {
        for (int kind = 0; kind <= 11; kind++) {
            CardTabulator x = new CardTabulator();
            x.keep(0);
            Check.punchAll(x, "d2 g1 w5 h500 r100", "d1 g1 w4 h9 r9", "d3 w3");
            x.control(0, 1);
            x.run();
            String before = whole(x);
            int count = x.told(6);
            int answer = change(x, kind);
            CHECK.due("change " + kind + " is none of the errors", answer < -1000000 ? 1 : 0, 0);
            CHECK.due("change " + kind + " is seen", whole(x).equals(before) ? 1 : 0, 0);
            int changes = kind == 10 ? 2 : 1;
            CHECK.due("told(6) behind change " + kind, x.told(6), count + changes);
            for (int i = changes - 1; i >= 0; i--) {
                CHECK.due("undo() of change " + kind, x.undo(), count + i);
            }
            CHECK.due("all is back behind undo of " + kind, whole(x).equals(before) ? 1 : 0, 1);
        }
    }

    private static void undoOfReport() {
        CardTabulator x = threeCards();
        CHECK.due("told(2)", x.told(2), 1);
        CHECK.due("undo() of the run", x.undo(), 4);
        CHECK.due("told(1) without a run", x.told(1), 0);
        CHECK.due("told(2) without a run", x.told(2), NONE);
        CHECK.due("told(3) without a run", x.told(3), 0);
        CHECK.due("reason(0) without a run", x.reason(0), BAD);
        CHECK.due("differs(0) without a run", x.differs(0), NONE);
        CHECK.due("line(0, 0) without a run", x.line(0, 0), BAD);
        CHECK.due("again(-1, 0) without a run", x.again(-1, 0), 0);
        CHECK.due("agrees() without a run", x.agrees(), 1);
        CHECK.dueFloat("mean() without a run", x.mean(), 0.0f);
        CHECK.due("undo() of the control", x.undo(), 3);
        CHECK.due("control(0, 9)", x.control(0, 9), NONE);
    }

    private static void atMostEight() {
        CardTabulator x = new CardTabulator();
        for (int i = 0; i < 21; i++) {
            x.set(3, i);
        }
        for (int i = 1; i <= 8; i++) {
            CHECK.due("undo()", x.undo(), 8 - i);
            CHECK.due("setting(3) behind undo", x.setting(3), 20 - i);
        }
        CHECK.due("undo() of a ninth", x.undo(), STATE);
        CHECK.due("setting(3) behind eight", x.setting(3), 12);
        for (int i = 0; i < 3; i++) {
            x.set(3, 12);
        }
        CHECK.due("told(6): changes that change nothing", x.told(6), 3);
        x.undo();
        x.set(3, 77);
        CHECK.due("told(6) behind undo and set", x.told(6), 3);
        CHECK.due("undo()", x.undo(), 2);
        CHECK.due("setting(3)", x.setting(3), 12);
    }

    private static void textAndFaultStay() {
        CardTabulator x = new CardTabulator();
        x.set(0, 0);
        CHECK.dueFault(x, "d1 d1", 2, 3);
        x.write('x');
        CHECK.due("undo()", x.undo(), 0);
        CHECK.due("told(5) behind undo", x.told(5), 6);
        CHECK.due("fault(0) behind undo", x.fault(0), 2);
        x.keep(0);
        x.wipe();
        x.write('d');
        CHECK.due("punch(0)", x.punch(0), STATE);
        x.back(0);
        CHECK.due("told(5) behind back", x.told(5), 1);
        CHECK.due("fault(0) behind back", x.fault(0), 4);
    }

    private static void errorsAreNoChanges() {
        CardTabulator x = threeCards();
        String before = whole(x);
        int[] odd = {-1, 41, BAD, STATE, Integer.MIN_VALUE, Integer.MAX_VALUE};
        for (int a : odd) {
            CHECK.due("lay", x.lay(a, 0, 1), BAD);
            CHECK.due("set", x.set(a, 0), BAD);
            CHECK.due("control", x.control(a, 0), BAD);
            CHECK.due("punch", x.punch(a), BAD);
            CHECK.due("take", x.take(a), BAD);
            CHECK.due("move", x.move(0, a), BAD);
            CHECK.due("repunch", x.repunch(0, a, 0), BAD);
            CHECK.due("mark", x.mark(0, 0, a), BAD);
            CHECK.due("pass", x.pass(a), BAD);
            CHECK.due("sort", x.sort(a), BAD);
            CHECK.due("back", x.back(a), BAD);
            CHECK.due("keep", x.keep(a), BAD);
            CHECK.due("back of nothing", x.back(1), STATE);
        }
        CHECK.due("told(6) behind errors", x.told(6), 5);
        CHECK.due("all is as it was", whole(x).equals(before) ? 1 : 0, 1);
    }

    private static void images() {
        CardTabulator x = threeCards();
        CHECK.due("keep(2)", x.keep(2), BAD);
        CHECK.due("keep(-1)", x.keep(-1), BAD);
        CHECK.due("back(2)", x.back(2), BAD);
        CHECK.due("back(-1)", x.back(-1), BAD);
        CHECK.due("back(0) of nothing", x.back(0), STATE);
        CHECK.due("keep(0)", x.keep(0), 3);
        CHECK.due("back(1) of nothing", x.back(1), STATE);
        CHECK.due("told(6): keep is no change", x.told(6), 5);
        String kept = whole(x);
        x.lay(1, 0, 4);
        x.set(0, 2);
        x.control(0, NONE);
        x.take(0);
        x.run();
        String other = whole(x);
        CHECK.due("back(0)", x.back(0), 3);
        CHECK.due("all is back", whole(x).equals(kept) ? 1 : 0, 1);
        CHECK.due("told(6) behind back", x.told(6), 8);
        CHECK.due("undo() of back", x.undo(), 7);
        CHECK.due("all is as before back", whole(x).equals(other) ? 1 : 0, 1);
        CHECK.due("undo() of what was before back", x.undo(), 6);
        CHECK.due("undo() of what was before that", x.undo(), 5);
        CHECK.due("told(0) behind undo", x.told(0), 3);
        CHECK.due("the image stays behind undo", x.back(0), 3);
        CHECK.due("all is back again", whole(x).equals(kept) ? 1 : 0, 1);
    }

    private static void imagesAreApart() {
        CardTabulator x = Check.deckOf("w1");
        x.keep(0);
        Check.punchAll(x, "w2");
        CHECK.due("keep(1)", x.keep(1), 2);
        x.repunch(0, 6, 9);
        x.back(0);
        CHECK.dueWorkers("back(0)", x, "1");
        x.repunch(0, 6, 8);
        x.back(0);
        CHECK.dueWorkers("back(0): changes behind it leave the image", x, "1");
        x.back(1);
        CHECK.dueWorkers("back(1)", x, "1 2");
        CHECK.due("keep(0) anew", x.keep(0), 2);
        x.take(0);
        x.back(0);
        CHECK.dueWorkers("back(0) anew", x, "1 2");
        CardTabulator empty = new CardTabulator();
        CHECK.due("keep(1) of no cards", empty.keep(1), 0);
        CHECK.due("back(1) of no cards", empty.back(1), 0);
    }
}
