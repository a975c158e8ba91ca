/**
 * A tabulator for punched wage cards: fields in columns, decks that are sorted column by column,
 * cards that are fed wrongly, totals that break by department, group and worker, and control
 * totals that must agree.
 */
public final class CardTabulator {
    public static final int BAD = -1000001, STATE = -1000002, FULL = -1000003, NONE = -1000009;

    private static final int COLUMNS = 24;
    private static final int MOST_CARDS = 40;
    private static final int MOST_CHANGES = 8;
    private static final int MOST_BYTES = 50;
    private static final int MOST_CONTROL = 1000000;
    private static final int IMAGES = 2;

    private static final int DEPARTMENT = 0, GROUP = 1, WORKER = 2, HOURS = 3, RATE = 4, CHECK = 5;
    private static final int FIELDS = 6;
    private static final int TEXT_FIELDS = 5;
    private static final int MOST_WIDTH = 4;

    private static final int SEQUENCE = 0, CHECKS = 1, MOST_HOURS = 2, LIMIT = 3;
    private static final int[] MOST_OF_SETTING = {2, 1, 9999, 9999};
    private static final int STOP = 2;

    private static final int CONTROLS = 3;
    private static final int CONTROL_CARDS = 0, CONTROL_HOURS = 1;

    private static final int SKIPPED = 1, SHIFTED = 2, TORN = 3;

    private static final int ACCEPTED = 0, IS_SKIPPED = 1, NO_VALUE = 2, WRONG_CHECK = 3;
    private static final int TOO_MANY_HOURS = 4, OUT_OF_SEQUENCE = 5, NOT_FED = 6;

    private static final int CARD_LINE = 0, WORKER_LINE = 1, GROUP_LINE = 2;
    private static final int DEPARTMENT_LINE = 3, ALL_LINE = 4;
    // A card prints its own line and at most three breaks; one line for all comes last.
    private static final int MOST_LINES = 4 * MOST_CARDS + 1;

    private static final int L_KIND = 0, L_DEPARTMENT = 1, L_GROUP = 2, L_WORKER = 3, L_CARDS = 4;
    private static final int L_HOURS = 5, L_WAGES = 6, L_OVERTIME = 7, L_NUMBER = 8;
    // The rate of a card's line is not told by line(), but the second way needs it.
    private static final int L_RATE = 9;
    private static final int LINE_NUMBERS = 10;

    private static final int WRONG_BYTE = 1, TOLD_BEFORE = 2, TOO_LONG = 3, ENDS_EARLY = 4;

    // Less than every key, so that the first card of a run is never out of sequence.
    private static final long NO_KEY = -1;

    private final State now;
    private final History past;
    private final State[] images;
    private final Text text;
    private final Sorter sorter;
    private final Printer printer;
    private final SecondWay secondWay;
    private final Card read;
    private final Totals slip;

    public CardTabulator() {
        now = new State();
        past = new History();
        images = new State[IMAGES];
        text = new Text();
        sorter = new Sorter();
        printer = new Printer();
        secondWay = new SecondWay();
        read = new Card();
        slip = new Totals();
    }

    // ---- fields and settings

    public int lay(int field, int first, int width) {
        if (!isField(field) || !fits(field, first, width)) {
            return BAD;
        }
        past.record(now);
        int previous = now.layout.firstOf(field);
        now.layout.place(field, first, width);
        return previous;
    }

    public int set(int setting, int value) {
        if (!isSetting(setting) || !isWithin(value, 0, MOST_OF_SETTING[setting])) {
            return BAD;
        }
        past.record(now);
        int previous = now.settingOf(setting);
        now.settings[setting] = value;
        return previous;
    }

    public int control(int which, int value) {
        if (!isControl(which) || (value != NONE && !isWithin(value, 0, MOST_CONTROL))) {
            return BAD;
        }
        past.record(now);
        int previous = now.controls[which];
        now.controls[which] = value;
        return previous;
    }

    // ---- the deck

    public int punch(int place) {
        if (!isWithin(place, 0, now.deck.size())) {
            return BAD;
        }
        if (!text.readsAsCard(now.layout)) {
            return STATE;
        }
        if (now.deck.size() >= MOST_CARDS) {
            return FULL;
        }
        past.record(now);
        Card punched = now.deck.insertBlank(place);
        text.punchOn(punched, now.layout);
        punched.show(now.layout.firstOf(CHECK), now.layout.dueOn(punched));
        return now.deck.size();
    }

    public int take(int card) {
        if (!now.deck.has(card)) {
            return BAD;
        }
        past.record(now);
        now.deck.remove(card);
        return now.deck.size();
    }

    public int move(int card, int to) {
        if (!now.deck.has(card) || !now.deck.has(to)) {
            return BAD;
        }
        past.record(now);
        now.deck.carry(card, to);
        return card == to ? 0 : Math.abs(card - to) + 1;
    }

    public int repunch(int card, int column, int digit) {
        if (!now.deck.has(card) || !isColumn(column)
            || (digit != NONE && !isWithin(digit, 0, 9))) {
            return BAD;
        }
        past.record(now);
        Card punched = now.deck.at(card);
        int previous = punched.shows(column);
        punched.show(column, digit);
        return previous;
    }

    public int mark(int card, int mark, int column) {
        if (!now.deck.has(card) || !isWithin(mark, 0, TORN) || !isColumn(column)) {
            return BAD;
        }
        past.record(now);
        Card marked = now.deck.at(card);
        int previous = marked.feeding;
        marked.feeding = mark;
        marked.tornColumn = column;
        return previous;
    }

    public int pass(int column) {
        if (!isColumn(column)) {
            return BAD;
        }
        past.record(now);
        sorter.begin(now.deck);
        sorter.passBy(now.deck, column);
        return sorter.arrange(now.deck);
    }

    public int sort(int field) {
        if (!isField(field)) {
            return BAD;
        }
        past.record(now);
        sorter.begin(now.deck);
        for (int i = now.layout.widthOf(field) - 1; i >= 0; i--) {
            sorter.passBy(now.deck, now.layout.firstOf(field) + i);
        }
        return sorter.arrange(now.deck);
    }

    public int run() {
        past.record(now);
        now.report.begin(now.deck.size(), now.settingOf(LIMIT));
        printer.begin();
        int accepted = feedDeck(now.settingOf(SEQUENCE), true);
        printer.end(now.report);
        return accepted;
    }

    public int undo() {
        if (past.isEmpty()) {
            return STATE;
        }
        past.restoreInto(now);
        return past.size();
    }

    // ---- the text

    public int write(int code) {
        if (!isWithin(code, 32, 126)) {
            return BAD;
        }
        if (text.size() >= MOST_BYTES) {
            return FULL;
        }
        text.append(code);
        return text.size();
    }

    public int wipe() {
        int length = text.size();
        text.clear();
        return length;
    }

    public int fault(int what) {
        switch (what) {
            case 0: return text.faultKind;
            case 1: return text.faultPlace;
            default: return BAD;
        }
    }

    // ---- what is told of fields and cards

    public int told(int what) {
        switch (what) {
            case 0: return now.deck.size();
            case 1: return now.report.lineCount;
            case 2: return now.report.isEmpty() ? NONE : now.report.lastLine(L_CARDS);
            case 3: return now.report.refusedCards();
            case 4: return isDeckInOrder() ? 1 : 0;
            case 5: return text.size();
            case 6: return past.size();
            default: return BAD;
        }
    }

    public int setting(int setting) {
        return isSetting(setting) ? now.settingOf(setting) : BAD;
    }

    public int field(int field, int what) {
        if (!isField(field) || !isWithin(what, 0, 1)) {
            return BAD;
        }
        return what == 0 ? now.layout.firstOf(field) : now.layout.widthOf(field);
    }

    public int column(int card, int column) {
        if (!now.deck.has(card) || !isColumn(column)) {
            return BAD;
        }
        return now.deck.at(card).shows(column);
    }

    public int card(int card, int what) {
        if (!now.deck.has(card)) {
            return BAD;
        }
        Card told = now.deck.at(card);
        if (isField(what)) {
            return now.layout.valueOn(told, what);
        }
        switch (what) {
            case 6: return now.layout.dueOn(told);
            case 7: return told.feeding;
            case 8: return told.tornColumn;
            case 9: return faultOfCard(told);
            default: return BAD;
        }
    }

    // ---- what is told of the latest run

    public int line(int line, int what) {
        if (!now.report.has(line) || !isWithin(what, L_KIND, L_NUMBER)) {
            return BAD;
        }
        return now.report.number(line, what);
    }

    public int reason(int k) {
        return now.report.hadCard(k) ? now.report.reasonOf(k) : BAD;
    }

    public int differs(int which) {
        if (!isControl(which)) {
            return BAD;
        }
        if (now.controls[which] == NONE || now.report.isEmpty()) {
            return NONE;
        }
        return acceptedTotal(which) - now.controls[which];
    }

    public int again(int department, int what) {
        if (department < -1 || !isWithin(what, 0, 4)) {
            return BAD;
        }
        secondWay.reckon(now.report);
        return secondWay.sum(department, what);
    }

    public int agrees() {
        if (now.report.isEmpty()) {
            return 1;
        }
        secondWay.reckon(now.report);
        boolean same = secondWay.sum(-1, 0) == now.report.lastLine(L_CARDS)
            && secondWay.sum(-1, 1) == now.report.lastLine(L_HOURS)
            && secondWay.sum(-1, 2) == now.report.lastLine(L_WAGES)
            && secondWay.sum(-1, 3) == now.report.lastLine(L_OVERTIME);
        return same ? 1 : 0;
    }

    public int ranked(int k, int what) {
        if (k < 0 || !isWithin(what, 0, 3)) {
            return BAD;
        }
        secondWay.reckon(now.report);
        if (k >= secondWay.size()) {
            return NONE;
        }
        secondWay.rank();
        Totals placed = secondWay.at(k);
        switch (what) {
            case 0: return placed.department;
            case 1: return placed.group;
            case 2: return placed.worker;
            default: return placed.wages;
        }
    }

    public float mean() {
        int hours = now.report.lastLine(L_HOURS);
        if (hours <= 0) {
            return 0.0f;
        }
        // Ten times the wages of a full deck can be more than an int holds.
        return (float) (10L * now.report.lastLine(L_WAGES)) / (float) hours;
    }

    // ---- what would be

    public int passes() {
        int all = 0;
        for (int field = DEPARTMENT; field <= WORKER; field++) {
            all += now.layout.widthOf(field);
        }
        for (int made = 0; made <= all; made++) {
            sorter.begin(now.deck);
            passByKeyColumns(all - made);
            if (sorter.isInKeyOrder(now.deck, now.layout)) {
                return made;
            }
        }
        return NONE;
    }

    public int accepts(int rule) {
        if (!isWithin(rule, 0, MOST_OF_SETTING[SEQUENCE])) {
            return BAD;
        }
        return feedDeck(rule, false);
    }

    // ---- images

    public int keep(int i) {
        if (!isWithin(i, 0, IMAGES - 1)) {
            return BAD;
        }
        State image = images[i];
        if (image == null) {
            image = new State();
            images[i] = image;
        }
        image.copyFrom(now);
        return now.deck.size();
    }

    public int back(int i) {
        if (!isWithin(i, 0, IMAGES - 1)) {
            return BAD;
        }
        State image = images[i];
        if (image == null) {
            return STATE;
        }
        past.record(now);
        now.copyFrom(image);
        return now.deck.size();
    }

    // ---- feeding

    private int feedDeck(int rule, boolean printed) {
        int accepted = 0;
        long latest = NO_KEY;
        boolean stopped = false;
        for (int i = 0; i < now.deck.size(); i++) {
            int reason = stopped ? NOT_FED : refusal(now.deck.at(i), rule, latest);
            if (reason == OUT_OF_SEQUENCE && rule == STOP) {
                stopped = true;
                reason = NOT_FED;
            }
            if (reason == ACCEPTED) {
                accepted++;
                latest = slip.key();
            }
            if (printed) {
                printJudged(i, reason);
            }
        }
        return accepted;
    }

    private void printJudged(int card, int reason) {
        now.report.judge(card, reason);
        if (reason == ACCEPTED) {
            printer.accept(now.report, slip, card);
        }
    }

    private int refusal(Card fed, int rule, long latest) {
        int reason = faultOfCard(fed);
        if (reason == ACCEPTED && rule != 0 && slip.key() < latest) {
            return OUT_OF_SEQUENCE;
        }
        return reason;
    }

    /** The reason of a card by itself; the slip holds what was read if there is none. */
    private int faultOfCard(Card fed) {
        if (fed.feeding == SKIPPED) {
            return IS_SKIPPED;
        }
        read.readFrom(fed);
        if (!slip.fillFrom(read, now.layout)) {
            return NO_VALUE;
        }
        if (now.settingOf(CHECKS) == 1
            && now.layout.valueOn(read, CHECK) != now.layout.dueOn(read)) {
            return WRONG_CHECK;
        }
        return slip.hours > now.settingOf(MOST_HOURS) ? TOO_MANY_HOURS : ACCEPTED;
    }

    private int acceptedTotal(int which) {
        switch (which) {
            case CONTROL_CARDS: return now.report.lastLine(L_CARDS);
            case CONTROL_HOURS: return now.report.lastLine(L_HOURS);
            default: return now.report.sumOfWorkers();
        }
    }

    // ---- order of keys

    private boolean isDeckInOrder() {
        sorter.begin(now.deck);
        return sorter.isInKeyOrder(now.deck, now.layout);
    }

    /** Makes the passes of the whole sequence but the first ones of it. */
    private void passByKeyColumns(int leftOut) {
        int met = 0;
        for (int field = WORKER; field >= DEPARTMENT; field--) {
            for (int i = now.layout.widthOf(field) - 1; i >= 0; i--) {
                if (met >= leftOut) {
                    sorter.passBy(now.deck, now.layout.firstOf(field) + i);
                }
                met++;
            }
        }
    }

    // ---- ranges

    private static boolean isWithin(int value, int least, int most) {
        return value >= least && value <= most;
    }

    private static boolean isField(int field) {
        return field >= 0 && field < FIELDS;
    }

    private static boolean isColumn(int column) {
        return column >= 0 && column < COLUMNS;
    }

    private static boolean isSetting(int setting) {
        return setting >= 0 && setting < MOST_OF_SETTING.length;
    }

    private static boolean isControl(int which) {
        return which >= 0 && which < CONTROLS;
    }

    private static boolean fits(int field, int first, int width) {
        int widest = field == CHECK ? 1 : MOST_WIDTH;
        return isWithin(width, 1, widest) && isColumn(first) && first + width <= COLUMNS;
    }

    /** Everything that changes, undo(), keep() and back() treat as one. */
    private static final class State {
        final Layout layout = new Layout();
        final Deck deck = new Deck();
        final Report report = new Report();
        final int[] settings = {1, 1, 999, 400};
        final int[] controls = {NONE, NONE, NONE};

        int settingOf(int setting) {
            return isSetting(setting) ? settings[setting] : 0;
        }

        void copyFrom(State other) {
            layout.copyFrom(other.layout);
            deck.copyFrom(other.deck);
            report.copyFrom(other.report);
            System.arraycopy(other.settings, 0, settings, 0, settings.length);
            System.arraycopy(other.controls, 0, controls, 0, controls.length);
        }
    }

    /** The states before the latest changes, in a ring whose places are used again. */
    private static final class History {
        private final State[] states = new State[MOST_CHANGES];
        private int oldest;
        private int count;

        int size() {
            return count;
        }

        boolean isEmpty() {
            return count == 0;
        }

        void record(State state) {
            at(count).copyFrom(state);
            if (count < MOST_CHANGES) {
                count++;
            } else {
                oldest = (oldest + 1) % MOST_CHANGES;
            }
        }

        void restoreInto(State state) {
            if (count > 0) {
                count--;
                state.copyFrom(at(count));
            }
        }

        /** The state so many behind the oldest; in a full ring the oldest follows the latest. */
        private State at(int behindOldest) {
            int slot = Math.floorMod(oldest + behindOldest, MOST_CHANGES);
            State found = states[slot];
            if (found == null) {
                found = new State();
                states[slot] = found;
            }
            return found;
        }
    }

    /** Where the fields lie, and what a card shows in them. */
    private static final class Layout {
        private final int[] firsts = {0, 2, 4, 7, 10, 14};
        private final int[] widths = {2, 2, 3, 3, 4, 1};

        int firstOf(int field) {
            return isField(field) ? firsts[field] : 0;
        }

        int widthOf(int field) {
            return isField(field) ? widths[field] : 0;
        }

        void place(int field, int first, int width) {
            if (isField(field)) {
                firsts[field] = first;
                widths[field] = width;
            }
        }

        int valueOn(Card card, int field) {
            int first = firstOf(field);
            int width = widthOf(field);
            int value = 0;
            for (int i = 0; i < width; i++) {
                int shown = card.shows(first + i);
                if (shown == NONE) {
                    return NONE;
                }
                value = 10 * value + shown;
            }
            return value;
        }

        int dueOn(Card card) {
            int sum = 0;
            for (int field = 0; field < TEXT_FIELDS; field++) {
                sum += weighedDigits(card, field);
            }
            return sum % 10;
        }

        private int weighedDigits(Card card, int field) {
            int first = firstOf(field);
            int width = widthOf(field);
            int sum = 0;
            for (int i = 0; i < width; i++) {
                int shown = card.shows(first + i);
                if (shown != NONE) {
                    sum += i % 2 == 0 ? 3 * shown : shown;
                }
            }
            return sum;
        }

        long keyOn(Card card) {
            int department = valueOn(card, DEPARTMENT);
            int group = valueOn(card, GROUP);
            int worker = valueOn(card, WORKER);
            if (department == NONE || group == NONE || worker == NONE) {
                return NO_KEY;
            }
            return Totals.keyOf(department, group, worker);
        }

        void copyFrom(Layout other) {
            System.arraycopy(other.firsts, 0, firsts, 0, FIELDS);
            System.arraycopy(other.widths, 0, widths, 0, FIELDS);
        }
    }

    private static final class Card {
        private final int[] columns = new int[COLUMNS];
        int feeding;
        int tornColumn;

        Card() {
            clear();
        }

        void clear() {
            for (int i = 0; i < COLUMNS; i++) {
                columns[i] = NONE;
            }
            feeding = 0;
            tornColumn = 0;
        }

        int shows(int column) {
            return isColumn(column) ? columns[column] : NONE;
        }

        void show(int column, int digit) {
            if (isColumn(column)) {
                columns[column] = digit;
            }
        }

        /** Becomes what the reader reads of a card that is fed. */
        void readFrom(Card fed) {
            copyFrom(fed);
            if (fed.feeding == SHIFTED) {
                System.arraycopy(fed.columns, 1, columns, 0, COLUMNS - 1);
                show(COLUMNS - 1, NONE);
            }
            if (fed.feeding == TORN) {
                show(fed.tornColumn, NONE);
            }
        }

        void copyFrom(Card other) {
            System.arraycopy(other.columns, 0, columns, 0, COLUMNS);
            feeding = other.feeding;
            tornColumn = other.tornColumn;
        }
    }

    /** The cards in their order; those behind the last one are spare and are used again. */
    private static final class Deck {
        private final Card[] cards = new Card[MOST_CARDS];
        private final Card stray = new Card();
        private int count;

        Deck() {
            for (int i = 0; i < MOST_CARDS; i++) {
                cards[i] = new Card();
            }
        }

        int size() {
            return count;
        }

        boolean has(int card) {
            return card >= 0 && card < count;
        }

        /** The card of a number, of a spare one too; never null. */
        Card at(int card) {
            Card found = card >= 0 && card < MOST_CARDS ? cards[card] : null;
            return found == null ? stray : found;
        }

        void put(int place, Card card) {
            if (place >= 0 && place < MOST_CARDS) {
                cards[place] = card;
            }
        }

        Card insertBlank(int place) {
            if (count >= MOST_CARDS) {
                return stray;
            }
            Card inserted = at(count);
            inserted.clear();
            carry(count, place);
            count++;
            return inserted;
        }

        void remove(int card) {
            if (has(card)) {
                carry(card, count - 1);
                count--;
            }
        }

        /** Takes a card out and puts it in again, so that it has the new number. */
        void carry(int card, int to) {
            Card carried = at(card);
            for (int i = card; i < to; i++) {
                put(i, at(i + 1));
            }
            for (int i = card; i > to; i--) {
                put(i, at(i - 1));
            }
            put(to, carried);
        }

        void copyFrom(Deck other) {
            count = other.count;
            for (int i = 0; i < count; i++) {
                at(i).copyFrom(other.at(i));
            }
        }
    }

    /** The order that sorting passes bring a deck into; the deck itself follows by arrange(). */
    private static final class Sorter {
        // One for the blank column, and one for each digit.
        private static final int STACKS = 11;

        private final int[] order = new int[MOST_CARDS];
        private final int[] sorted = new int[MOST_CARDS];
        private final int[] starts = new int[STACKS + 1];
        private final Card[] cards = new Card[MOST_CARDS];
        private int count;

        void begin(Deck deck) {
            count = Math.min(deck.size(), MOST_CARDS);
            for (int i = 0; i < count; i++) {
                order[i] = i;
            }
        }

        void passBy(Deck deck, int column) {
            findStarts(deck, column);
            for (int i = 0; i < count; i++) {
                int stack = stackOf(deck.at(order[i]), column);
                int place = starts[stack];
                if (place >= 0 && place < MOST_CARDS) {
                    sorted[place] = order[i];
                }
                starts[stack]++;
            }
            System.arraycopy(sorted, 0, order, 0, count);
        }

        private void findStarts(Deck deck, int column) {
            for (int stack = 0; stack <= STACKS; stack++) {
                starts[stack] = 0;
            }
            for (int i = 0; i < count; i++) {
                starts[stackOf(deck.at(order[i]), column) + 1]++;
            }
            for (int stack = 1; stack <= STACKS; stack++) {
                starts[stack] += starts[stack - 1];
            }
        }

        private static int stackOf(Card card, int column) {
            int shown = card.shows(column);
            return isWithin(shown, 0, 9) ? shown + 1 : 0;
        }

        /** Puts the cards into the order that was found; tells how many have another number. */
        int arrange(Deck deck) {
            int changed = 0;
            for (int i = 0; i < count; i++) {
                cards[i] = deck.at(order[i]);
                if (order[i] != i) {
                    changed++;
                }
            }
            for (int i = 0; i < count; i++) {
                deck.put(i, cards[i]);
            }
            return changed;
        }

        /** Cards without a key are passed over. */
        boolean isInKeyOrder(Deck deck, Layout layout) {
            long latest = NO_KEY;
            for (int i = 0; i < count; i++) {
                long key = layout.keyOn(deck.at(order[i]));
                if (key != NO_KEY) {
                    if (key < latest) {
                        return false;
                    }
                    latest = key;
                }
            }
            return true;
        }
    }

    /** Some cards added up, with the department, group, worker and rate of the latest of them. */
    private static final class Totals {
        int department;
        int group;
        int worker;
        int rate;
        int cards;
        int hours;
        int wages;
        int overtime;

        static long keyOf(int department, int group, int worker) {
            return (department * 10000L + group) * 10000L + worker;
        }

        long key() {
            return keyOf(department, group, worker);
        }

        void clear() {
            department = 0;
            group = 0;
            worker = 0;
            rate = 0;
            cards = 0;
            hours = 0;
            wages = 0;
            overtime = 0;
        }

        /** Becomes the totals of one card; tells whether all its fields have a value. */
        boolean fillFrom(Card card, Layout layout) {
            department = layout.valueOn(card, DEPARTMENT);
            group = layout.valueOn(card, GROUP);
            worker = layout.valueOn(card, WORKER);
            hours = layout.valueOn(card, HOURS);
            rate = layout.valueOn(card, RATE);
            if (department == NONE || group == NONE || worker == NONE
                || hours == NONE || rate == NONE) {
                return false;
            }
            cards = 1;
            wages = hours * rate / 10;
            overtime = 0;
            return true;
        }

        void addCard(Totals slip) {
            department = slip.department;
            group = slip.group;
            worker = slip.worker;
            rate = slip.rate;
            cards += slip.cards;
            hours += slip.hours;
            wages += slip.wages;
        }

        int overtimeBeyond(int limit) {
            if (hours <= limit) {
                return 0;
            }
            // The hours of a full deck times a rate can be more than an int holds.
            return (int) ((long) (hours - limit) * rate / 20);
        }

        void addOvertime(int extra) {
            wages += extra;
            overtime += extra;
        }
    }

    /** What the latest run has printed, and why it refused cards. */
    private static final class Report {
        private final int[] lines = new int[MOST_LINES * LINE_NUMBERS];
        private final int[] reasons = new int[MOST_CARDS];
        int lineCount;
        private int deckSize;
        int limit;

        void begin(int cards, int overtimeLimit) {
            lineCount = 0;
            deckSize = Math.min(cards, MOST_CARDS);
            limit = overtimeLimit;
        }

        boolean isEmpty() {
            return lineCount == 0;
        }

        boolean has(int line) {
            return line >= 0 && line < lineCount;
        }

        boolean hadCard(int k) {
            return k >= 0 && k < deckSize;
        }

        int reasonOf(int k) {
            return hadCard(k) ? reasons[k] : BAD;
        }

        void judge(int k, int reason) {
            if (hadCard(k)) {
                reasons[k] = reason;
            }
        }

        int refusedCards() {
            int refused = 0;
            for (int k = 0; k < deckSize; k++) {
                if (isWithin(reasonOf(k), IS_SKIPPED, OUT_OF_SEQUENCE)) {
                    refused++;
                }
            }
            return refused;
        }

        int number(int line, int what) {
            return has(line) && isWithin(what, 0, LINE_NUMBERS - 1)
                ? lines[line * LINE_NUMBERS + what] : 0;
        }

        int lastLine(int what) {
            return number(lineCount - 1, what);
        }

        int sumOfWorkers() {
            int sum = 0;
            for (int line = 0; line < lineCount; line++) {
                if (isCard(line)) {
                    sum += number(line, L_WORKER);
                }
            }
            return sum;
        }

        boolean isCard(int line) {
            return has(line) && number(line, L_KIND) == CARD_LINE;
        }

        void print(int kind, Totals totals, int card) {
            if (lineCount >= MOST_LINES) {
                return;
            }
            int start = lineCount * LINE_NUMBERS;
            lines[start + L_KIND] = kind;
            lines[start + L_DEPARTMENT] = kind <= DEPARTMENT_LINE ? totals.department : NONE;
            lines[start + L_GROUP] = kind <= GROUP_LINE ? totals.group : NONE;
            lines[start + L_WORKER] = kind <= WORKER_LINE ? totals.worker : NONE;
            lines[start + L_CARDS] = totals.cards;
            lines[start + L_HOURS] = totals.hours;
            lines[start + L_WAGES] = totals.wages;
            lines[start + L_OVERTIME] = totals.overtime;
            lines[start + L_NUMBER] = card;
            lines[start + L_RATE] = totals.rate;
            lineCount++;
        }

        void readCard(int line, Totals into) {
            into.department = number(line, L_DEPARTMENT);
            into.group = number(line, L_GROUP);
            into.worker = number(line, L_WORKER);
            into.rate = number(line, L_RATE);
            into.cards = number(line, L_CARDS);
            into.hours = number(line, L_HOURS);
            into.wages = number(line, L_WAGES);
            into.overtime = number(line, L_OVERTIME);
        }

        void copyFrom(Report other) {
            lineCount = other.lineCount;
            deckSize = other.deckSize;
            limit = other.limit;
            System.arraycopy(other.lines, 0, lines, 0, lineCount * LINE_NUMBERS);
            System.arraycopy(other.reasons, 0, reasons, 0, deckSize);
        }
    }

    /** Prints a report card by card, with progressive totals and breaks. */
    private static final class Printer {
        private final Totals worker = new Totals();
        private final Totals group = new Totals();
        private final Totals department = new Totals();
        private final Totals all = new Totals();

        void begin() {
            worker.clear();
            group.clear();
            department.clear();
            all.clear();
        }

        void accept(Report report, Totals slip, int card) {
            if (all.cards > 0 && slip.key() != all.key()) {
                breakBefore(report, slip);
            }
            report.print(CARD_LINE, slip, card);
            worker.addCard(slip);
            group.addCard(slip);
            department.addCard(slip);
            all.addCard(slip);
        }

        void end(Report report) {
            if (all.cards > 0) {
                breakWorker(report);
                breakGroup(report);
                breakDepartment(report);
            }
            report.print(ALL_LINE, all, NONE);
        }

        private void breakBefore(Report report, Totals slip) {
            boolean otherDepartment = slip.department != all.department;
            breakWorker(report);
            if (otherDepartment || slip.group != all.group) {
                breakGroup(report);
            }
            if (otherDepartment) {
                breakDepartment(report);
            }
        }

        private void breakWorker(Report report) {
            int extra = worker.overtimeBeyond(report.limit);
            worker.addOvertime(extra);
            group.addOvertime(extra);
            department.addOvertime(extra);
            all.addOvertime(extra);
            report.print(WORKER_LINE, worker, NONE);
            worker.clear();
        }

        private void breakGroup(Report report) {
            report.print(GROUP_LINE, group, NONE);
            group.clear();
        }

        private void breakDepartment(Report report) {
            report.print(DEPARTMENT_LINE, department, NONE);
            department.clear();
        }
    }

    /** The accepted cards of a report, reckoned by their keys wherever they were fed. */
    private static final class SecondWay {
        private final Totals[] keys = new Totals[MOST_CARDS];
        private final Totals stray = new Totals();
        private final Totals slip = new Totals();
        private int count;

        SecondWay() {
            for (int i = 0; i < MOST_CARDS; i++) {
                keys[i] = new Totals();
            }
        }

        int size() {
            return count;
        }

        /** The totals of a key; never null. */
        Totals at(int i) {
            Totals found = i >= 0 && i < MOST_CARDS ? keys[i] : null;
            return found == null ? stray : found;
        }

        void reckon(Report report) {
            count = 0;
            for (int line = 0; line < report.lineCount; line++) {
                if (report.isCard(line)) {
                    report.readCard(line, slip);
                    ofKey(slip.key()).addCard(slip);
                }
            }
            for (int i = 0; i < count; i++) {
                at(i).addOvertime(at(i).overtimeBeyond(report.limit));
            }
        }

        private Totals ofKey(long key) {
            for (int i = 0; i < count; i++) {
                if (at(i).key() == key) {
                    return at(i);
                }
            }
            Totals fresh = at(count);
            fresh.clear();
            if (count < MOST_CARDS) {
                count++;
            }
            return fresh;
        }

        /** A number of one department, or of all for -1. */
        int sum(int department, int what) {
            int sum = 0;
            for (int i = 0; i < count; i++) {
                if (department == -1 || at(i).department == department) {
                    sum += numberOf(at(i), what);
                }
            }
            return sum;
        }

        private static int numberOf(Totals totals, int what) {
            switch (what) {
                case 0: return totals.cards;
                case 1: return totals.hours;
                case 2: return totals.wages;
                case 3: return totals.overtime;
                default: return 1;
            }
        }

        /** Puts the greatest wages first, of equal ones the least key. */
        void rank() {
            for (int i = 1; i < count; i++) {
                Totals placed = at(i);
                int place = i;
                while (place > 0 && isAhead(placed, at(place - 1))) {
                    put(place, at(place - 1));
                    place--;
                }
                put(place, placed);
            }
        }

        private void put(int place, Totals totals) {
            if (place >= 0 && place < MOST_CARDS) {
                keys[place] = totals;
            }
        }

        private static boolean isAhead(Totals one, Totals other) {
            return one.wages > other.wages
                || (one.wages == other.wages && one.key() < other.key());
        }
    }

    /** The text, what was found when it was read as a card, and the latest fault. */
    private static final class Text {
        private static final int NO_WORD = -1;

        private final int[] bytes = new int[MOST_BYTES];
        private final int[] digits = new int[TEXT_FIELDS];
        private final int[] starts = new int[TEXT_FIELDS];
        private int length;
        private int word;
        int faultKind = NONE;
        int faultPlace = NONE;

        int size() {
            return length;
        }

        void clear() {
            length = 0;
        }

        void append(int code) {
            if (length < MOST_BYTES) {
                bytes[length] = code;
                length++;
            }
        }

        private int at(int place) {
            return place >= 0 && place < length ? bytes[place] : ' ';
        }

        /** Finds the numbers of the fields, or notes the first fault. */
        boolean readsAsCard(Layout layout) {
            word = NO_WORD;
            for (int field = 0; field < TEXT_FIELDS; field++) {
                digits[field] = 0;
            }
            for (int place = 0; place < length; place++) {
                int kind = word == NO_WORD ? readBetweenWords(place) : readInWord(place, layout);
                if (kind != 0) {
                    return noteFault(kind, place);
                }
            }
            if (!hasWord() || endsBehindLetter()) {
                return noteFault(ENDS_EARLY, length);
            }
            return true;
        }

        private boolean noteFault(int kind, int place) {
            faultKind = kind;
            faultPlace = place;
            return false;
        }

        private int readBetweenWords(int place) {
            int code = at(place);
            if (code == ' ') {
                return 0;
            }
            int field = fieldOf(code);
            if (field == NO_WORD) {
                return WRONG_BYTE;
            }
            if (digitsOf(field) > 0) {
                return TOLD_BEFORE;
            }
            word = field;
            if (isTextField(field)) {
                starts[field] = place + 1;
            }
            return 0;
        }

        private int readInWord(int place, Layout layout) {
            int code = at(place);
            if (isWithin(code, '0', '9')) {
                return countDigit(layout.widthOf(word));
            }
            if (code == ' ' && digitsOf(word) > 0) {
                word = NO_WORD;
                return 0;
            }
            return WRONG_BYTE;
        }

        private int countDigit(int width) {
            if (digitsOf(word) >= width) {
                return TOO_LONG;
            }
            if (isTextField(word)) {
                digits[word]++;
            }
            return 0;
        }

        private boolean hasWord() {
            for (int field = 0; field < TEXT_FIELDS; field++) {
                if (digits[field] > 0) {
                    return true;
                }
            }
            return false;
        }

        private boolean endsBehindLetter() {
            return word != NO_WORD && digitsOf(word) == 0;
        }

        private int digitsOf(int field) {
            return isTextField(field) ? digits[field] : 0;
        }

        private static boolean isTextField(int field) {
            return field >= 0 && field < TEXT_FIELDS;
        }

        private static int fieldOf(int code) {
            switch (code) {
                case 'd': return DEPARTMENT;
                case 'g': return GROUP;
                case 'w': return WORKER;
                case 'h': return HOURS;
                case 'r': return RATE;
                default: return NO_WORD;
            }
        }

        /** Punches the numbers that readsAsCard() has found, with zeros ahead of them. */
        void punchOn(Card card, Layout layout) {
            for (int field = 0; field < TEXT_FIELDS; field++) {
                if (digits[field] > 0) {
                    punchNumber(card, layout, field);
                }
            }
        }

        private void punchNumber(Card card, Layout layout, int field) {
            int width = layout.widthOf(field);
            int zeros = width - digitsOf(field);
            for (int i = 0; i < width; i++) {
                int digit = i < zeros ? 0 : at(starts[field] + i - zeros) - '0';
                card.show(layout.firstOf(field) + i, digit);
            }
        }
    }
}
