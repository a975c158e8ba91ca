import java.util.Random;

/** Runs of mixed calls on the class and on the model; the same ones each time. */
public final class ModelTest {
    private static final int RUNS = 1500;
    private static final int CALLS = 512;
    private static final int NONE = CardTabulator.NONE;
    private static final int[] ODD_NUMBERS = {
        Integer.MIN_VALUE, Integer.MAX_VALUE, CardTabulator.BAD, CardTabulator.STATE,
        CardTabulator.FULL, NONE, -1, -2, 1000000, 1000001, 10000};

    private final Random random;
    private final CardTabulator x = new CardTabulator();
    private final Model model = new Model();
    private final int run;
    // Some runs have wild calls, some are tame, so that decks grow and are accepted.
    private final int wild;
    private int calls;

    private ModelTest(int run) {
        this.run = run;
        random = new Random(run);
        wild = run % 4 == 0 ? 12 : run % 4 == 1 ? 60 : 400;
    }

    public static void main(String[] args) {
        for (int run = 0; run < RUNS; run++) {
            ModelTest test = new ModelTest(run);
            test.go();
        }
        System.out.println("ModelTest: well");
    }

    private void go() {
        if (run % 3 != 0) {
            fillDeck();
        }
        int queries = run % 3 == 0 ? 1 : 6;
        // A change can be two calls, and later ones than the 512th are free.
        while (calls < CALLS - 1) {
            if (random.nextInt(5 + queries) < queries) {
                query();
            } else {
                change();
            }
        }
    }

    /** Many cards of few workers, most of which are accepted; so that reports grow long. */
    private void fillDeck() {
        int rule = random.nextInt(3);
        due("set(0, " + rule + ")", x.set(0, rule), model.set(0, rule));
        due("set(2, 9999)", x.set(2, 9999), model.set(2, 9999));
        int limit = random.nextInt(run % 2 == 0 ? 1000 : 100);
        due("set(3, " + limit + ")", x.set(3, limit), model.set(3, limit));
        due("lay(5, 23, 1)", x.lay(5, 23, 1), model.lay(5, 23, 1));
        due("lay(3, 14, 4)", x.lay(3, 14, 4), model.lay(3, 14, 4));
        int few = 1 + random.nextInt(3);
        while (model.cards() < 40 && calls < 250) {
            due("wipe()", x.wipe(), model.wipe());
            write("d" + random.nextInt(few) + " g" + random.nextInt(few) + " w"
                + random.nextInt(few + 1) + " h" + digits(4) + " r" + digits(4));
            for (int i = random.nextInt(8); i >= 0; i--) {
                int place = random.nextInt(model.cards() + 1);
                due("punch(" + place + ")", x.punch(place), model.punch(place));
            }
        }
    }

    private void due(String call, double got, double want) {
        calls++;
        if (got != want) {
            System.out.println("run " + run + ", call " + calls + ": " + call + " answered "
                + got + ", due is " + want);
            System.exit(1);
        }
    }

    /** A number below a bound, but sometimes one that is out of range or odd. */
    private int number(int below) {
        if (random.nextInt(wild) == 0) {
            int kind = random.nextInt(3);
            return kind == 0 ? ODD_NUMBERS[random.nextInt(ODD_NUMBERS.length)]
                : kind == 1 ? below : below + random.nextInt(3);
        }
        return below <= 0 ? 0 : random.nextInt(below);
    }

    private String digits(int most) {
        int many = random.nextInt(wild) == 0 ? 1 + random.nextInt(5) : 1 + random.nextInt(most);
        StringBuilder told = new StringBuilder();
        for (int i = 0; i < many; i++) {
            told.append((char) ('0' + random.nextInt(i == 0 && many == 1 ? 3 : 10)));
        }
        return told.toString();
    }

    private String text() {
        StringBuilder told = new StringBuilder();
        boolean small = run % 3 != 0;
        for (int field = 0; field < 5; field++) {
            int width = model.now.lay[field][1];
            if (random.nextInt(wild) != 0) {
                told.append("dgwhr".charAt(field));
                told.append(digits(small && field < 3 ? 1 : width)).append(' ');
            }
        }
        for (int i = random.nextInt(wild); i < 2 && told.length() > 0; i++) {
            told.setCharAt(random.nextInt(told.length()), "d 1x:hG/".charAt(random.nextInt(8)));
        }
        return told.toString().trim();
    }

    private void type() {
        due("wipe()", x.wipe(), model.wipe());
        write(text());
    }

    private void write(String text) {
        for (int i = 0; i < text.length() && calls < CALLS - 1; i++) {
            int code = text.charAt(i);
            due("write(" + code + ")", x.write(code), model.write(code));
        }
    }

    private void change() {
        int cards = model.cards();
        int a = number(cards);
        int b = number(cards);
        int column = number(24);
        switch (random.nextInt(20)) {
            case 0:
                type();
                // fall through: what was typed is punched
            case 1: case 2: case 3: case 4: {
                int place = number(cards + 1);
                due("punch(" + place + ")", x.punch(place), model.punch(place));
                break;
            }
            case 5: case 6:
                repunch(a, column);
                break;
            case 7:
                mark(a, column);
                break;
            case 8:
                due("move(" + a + ", " + b + ")", x.move(a, b), model.move(a, b));
                break;
            case 9:
                due("pass(" + column + ")", x.pass(column), model.pass(column));
                break;
            case 10: {
                int field = number(6);
                due("sort(" + field + ")", x.sort(field), model.sort(field));
                break;
            }
            case 11: case 12:
                due("run()", x.run(), model.run());
                for (int i = 0; i < 6 && calls < CALLS; i++) {
                    query();
                }
                break;
            case 13:
                due("undo()", x.undo(), model.undo());
                break;
            case 14:
                if (random.nextInt(3) == 0) {
                    due("take(" + a + ")", x.take(a), model.take(a));
                }
                break;
            case 15:
                image();
                break;
            default:
                adjust();
        }
    }

    private void repunch(int card, int column) {
        int digit = random.nextInt(4) == 0 ? NONE : number(10);
        due("repunch(" + card + ", " + column + ", " + digit + ")",
            x.repunch(card, column, digit), model.repunch(card, column, digit));
    }

    private void mark(int card, int column) {
        int mark = random.nextInt(2) == 0 ? 0 : number(4);
        due("mark(" + card + ", " + mark + ", " + column + ")",
            x.mark(card, mark, column), model.mark(card, mark, column));
    }

    private void image() {
        int i = number(2);
        if (random.nextInt(3) != 0) {
            due("keep(" + i + ")", x.keep(i), model.keep(i));
        } else {
            due("back(" + i + ")", x.back(i), model.back(i));
        }
    }

    private void adjust() {
        int code = 32 + number(95);
        switch (random.nextInt(wild < 100 ? 6 : 12)) {
            case 0: {
                int field = number(6);
                int first = number(24);
                int width = field == 5 && random.nextInt(wild) != 0 ? 1 : 1 + number(4);
                due("lay(" + field + ", " + first + ", " + width + ")",
                    x.lay(field, first, width), model.lay(field, first, width));
                break;
            }
            case 1: case 2: {
                int setting = number(4);
                int value = setting == 0 ? number(3) : setting == 1 ? number(2)
                    : random.nextInt(2) == 0 ? number(1000) : number(10000);
                due("set(" + setting + ", " + value + ")",
                    x.set(setting, value), model.set(setting, value));
                break;
            }
            case 3: case 4: {
                int which = number(3);
                int value = random.nextInt(4) == 0 ? NONE : number(2000);
                due("control(" + which + ", " + value + ")",
                    x.control(which, value), model.control(which, value));
                break;
            }
            default:
                due("write(" + code + ")", x.write(code), model.write(code));
        }
    }

    private void query() {
        int card = number(model.cards());
        int what;
        switch (random.nextInt(17)) {
            case 0:
                what = number(2);
                due("fault(" + what + ")", x.fault(what), model.fault(what));
                break;
            case 1: case 2:
                what = number(7);
                due("told(" + what + ")", x.told(what), model.told(what));
                break;
            case 3:
                what = number(4);
                due("setting(" + what + ")", x.setting(what), model.setting(what));
                break;
            case 4: {
                int field = number(6);
                what = number(2);
                due("field(" + field + ", " + what + ")",
                    x.field(field, what), model.field(field, what));
                break;
            }
            case 5: {
                int column = number(24);
                due("column(" + card + ", " + column + ")",
                    x.column(card, column), model.column(card, column));
                break;
            }
            case 6: case 7:
                what = number(10);
                due("card(" + card + ", " + what + ")", x.card(card, what), model.card(card, what));
                break;
            case 8: {
                int k = number(model.now.reasons.size());
                due("reason(" + k + ")", x.reason(k), model.reason(k));
                break;
            }
            case 9:
                what = number(3);
                due("differs(" + what + ")", x.differs(what), model.differs(what));
                break;
            case 10:
                due("passes()", x.passes(), model.passes());
                break;
            case 11: {
                int rule = number(3);
                due("accepts(" + rule + ")", x.accepts(rule), model.accepts(rule));
                break;
            }
            default:
                queryReport();
        }
    }

    private void queryReport() {
        int lines = model.now.lines.size();
        int what;
        switch (random.nextInt(8)) {
            case 0: {
                int department = random.nextInt(2) == 0 ? -1 : number(10);
                what = number(5);
                due("again(" + department + ", " + what + ")",
                    x.again(department, what), model.again(department, what));
                break;
            }
            case 1:
                due("agrees()", x.agrees(), model.agrees());
                break;
            case 2: case 3: {
                int k = number(12);
                what = number(4);
                due("ranked(" + k + ", " + what + ")", x.ranked(k, what), model.ranked(k, what));
                break;
            }
            case 4:
                due("mean()", x.mean(), model.mean());
                break;
            default: {
                int line = random.nextInt(4) == 0 ? lines - 1 : number(lines);
                what = number(9);
                due("line(" + line + ", " + what + ")", x.line(line, what), model.line(line, what));
            }
        }
    }
}
