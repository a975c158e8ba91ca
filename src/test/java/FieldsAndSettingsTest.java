/** Promises 1 to 4, 18 and 19: a new object, lay, set, control, setting, field. */
public final class FieldsAndSettingsTest {
    private static final int BAD = CardTabulator.BAD, STATE = CardTabulator.STATE;
    private static final int NONE = CardTabulator.NONE;
    private static final Check CHECK = new Check();

    public static void main(String[] args) {
        newObject();
        lay();
        layWrongly();
        layKeepsCards();
        set();
        control();
        CHECK.end("FieldsAndSettingsTest");
    }

    private static void newObject() {
        CardTabulator x = new CardTabulator();
        int[] told = {0, 0, NONE, 0, 1, 0, 0, BAD};
        for (int what = 0; what < told.length; what++) {
            CHECK.due("new: told(" + what + ")", x.told(what), told[what]);
        }
        CHECK.due("new: fault(0)", x.fault(0), NONE);
        CHECK.due("new: fault(1)", x.fault(1), NONE);
        CHECK.due("new: undo()", x.undo(), STATE);
        CHECK.due("new: back(0)", x.back(0), STATE);
        CHECK.due("new: back(1)", x.back(1), STATE);
        CHECK.due("new: wipe()", x.wipe(), 0);
        CHECK.due("new: agrees()", x.agrees(), 1);
        CHECK.due("new: line(0, 0)", x.line(0, 0), BAD);
        CHECK.due("new: again(-1, 0)", x.again(-1, 0), 0);
        CHECK.dueFloat("new: mean()", x.mean(), 0.0f);
        int[] settings = {1, 1, 999, 400};
        for (int i = 0; i < 4; i++) {
            CHECK.due("new: setting(" + i + ")", x.setting(i), settings[i]);
        }
        int[][] fields = {{0, 2}, {2, 2}, {4, 3}, {7, 3}, {10, 4}, {14, 1}};
        for (int f = 0; f < 6; f++) {
            CHECK.due("new: field(" + f + ", 0)", x.field(f, 0), fields[f][0]);
            CHECK.due("new: field(" + f + ", 1)", x.field(f, 1), fields[f][1]);
        }
        for (int which = 0; which < 3; which++) {
            CHECK.due("new: control(" + which + ", NONE)", x.control(which, NONE), NONE);
        }
    }

    private static void lay() {
        CardTabulator x = new CardTabulator();
        CHECK.due("lay(2, 20, 4)", x.lay(2, 20, 4), 4);
        CHECK.due("field(2, 0)", x.field(2, 0), 20);
        CHECK.due("field(2, 1)", x.field(2, 1), 4);
        CHECK.due("lay(2, 23, 1)", x.lay(2, 23, 1), 20);
        CHECK.due("lay(2, 0, 1)", x.lay(2, 0, 1), 23);
        CHECK.due("lay(5, 23, 1)", x.lay(5, 23, 1), 14);
        CHECK.due("lay(5, 23, 1) again", x.lay(5, 23, 1), 23);
        CHECK.due("told(6) behind five lays", x.told(6), 5);
    }

    private static void layWrongly() {
        CardTabulator x = new CardTabulator();
        int[][] wrong = {{-1, 0, 1}, {6, 0, 1}, {0, -1, 1}, {0, 24, 1}, {0, 23, 2}, {0, 21, 4},
            {0, 0, 0}, {0, 0, 5}, {0, 0, -1}, {5, 0, 2}, {5, 0, 0}, {5, 24, 1},
            {0, Integer.MAX_VALUE, 1}, {0, 0, Integer.MAX_VALUE}, {0, Integer.MIN_VALUE, 4},
            {0, Integer.MAX_VALUE, 4}, {NONE, 0, 1}};
        for (int[] a : wrong) {
            CHECK.due("lay(" + a[0] + ", " + a[1] + ", " + a[2] + ")", x.lay(a[0], a[1], a[2]), BAD);
        }
        CHECK.due("told(6) behind wrong lays", x.told(6), 0);
        CHECK.due("field(0, 0) behind wrong lays", x.field(0, 0), 0);
        CHECK.due("field(0, 1) behind wrong lays", x.field(0, 1), 2);
        int[][] none = {{-1, 0}, {6, 0}, {0, -1}, {0, 2}, {6, 2}};
        for (int[] a : none) {
            CHECK.due("field(" + a[0] + ", " + a[1] + ")", x.field(a[0], a[1]), BAD);
        }
    }

    private static void layKeepsCards() {
        CardTabulator x = Check.deckOf("d12 g34 w567 h1 r1");
        x.lay(0, 1, 3);
        CHECK.due("column(0, 0)", x.column(0, 0), 1);
        CHECK.due("card(0, 0) laid anew", x.card(0, 0), 234);
        x.lay(0, 15, 1);
        CHECK.due("card(0, 0) laid on a blank", x.card(0, 0), NONE);
    }

    private static void set() {
        CardTabulator x = new CardTabulator();
        int[] most = {2, 1, 9999, 9999};
        int[] first = {1, 1, 999, 400};
        for (int i = 0; i < 4; i++) {
            CHECK.due("set " + i + " to the most", x.set(i, most[i]), first[i]);
            CHECK.due("set " + i + " to 0", x.set(i, 0), most[i]);
            CHECK.due("set " + i + " beyond", x.set(i, most[i] + 1), BAD);
            CHECK.due("set " + i + " below", x.set(i, -1), BAD);
            CHECK.due("set " + i + " to NONE", x.set(i, NONE), BAD);
            CHECK.due("setting(" + i + ")", x.setting(i), 0);
        }
        CHECK.due("told(6) behind eight sets", x.told(6), 8);
        CHECK.due("set(4, 0)", x.set(4, 0), BAD);
        CHECK.due("set(-1, 0)", x.set(-1, 0), BAD);
        CHECK.due("setting(4)", x.setting(4), BAD);
        CHECK.due("setting(-1)", x.setting(-1), BAD);
    }

    private static void control() {
        CardTabulator x = new CardTabulator();
        CHECK.due("control(2, 0)", x.control(2, 0), NONE);
        CHECK.due("control(2, 1000000)", x.control(2, 1000000), 0);
        CHECK.due("control(2, 1000001)", x.control(2, 1000001), BAD);
        CHECK.due("control(2, -1)", x.control(2, -1), BAD);
        CHECK.due("control(2, BAD)", x.control(2, BAD), BAD);
        CHECK.due("control(3, 0)", x.control(3, 0), BAD);
        CHECK.due("control(-1, NONE)", x.control(-1, NONE), BAD);
        CHECK.due("told(6) behind two controls", x.told(6), 2);
        CHECK.due("control(2, NONE)", x.control(2, NONE), 1000000);
        CHECK.due("control(2, 7)", x.control(2, 7), NONE);
        CHECK.due("control(1, 7)", x.control(1, 7), NONE);
    }
}
