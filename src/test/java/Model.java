import java.util.ArrayList;
import java.util.Arrays;
import java.util.Comparator;
import java.util.LinkedList;
import java.util.List;
import java.util.TreeMap;

/** The document once more, in another way and with the library: the class is compared with it. */
final class Model {
    static final int BAD = -1000001, STATE = -1000002, FULL = -1000003, NONE = -1000009;

    static final class Punched {
        Integer[] digits = new Integer[24];
        int mark = 0;
        int torn = 0;

        Punched copy() {
            Punched c = new Punched();
            c.digits = digits.clone();
            c.mark = mark;
            c.torn = torn;
            return c;
        }
    }

    /** One accepted card of a run. */
    static final class Slip {
        List<Integer> key;
        int hours, rate, number;

        int wage() {
            return hours * rate / 10;
        }
    }

    static final class All {
        int[][] lay = {{0, 2}, {2, 2}, {4, 3}, {7, 3}, {10, 4}, {14, 1}};
        int[] set = {1, 1, 999, 400};
        int[] control = {NONE, NONE, NONE};
        List<Punched> deck = new ArrayList<>();
        boolean wasRun = false;
        int runLimit = 0;
        List<Slip> slips = new ArrayList<>();
        List<Integer> reasons = new ArrayList<>();
        List<long[]> lines = new ArrayList<>();

        All copy() {
            All a = new All();
            for (int i = 0; i < 6; i++) {
                a.lay[i] = lay[i].clone();
            }
            a.set = set.clone();
            a.control = control.clone();
            for (Punched c : deck) {
                a.deck.add(c.copy());
            }
            a.wasRun = wasRun;
            a.runLimit = runLimit;
            a.slips = new ArrayList<>(slips);
            a.reasons = new ArrayList<>(reasons);
            a.lines = new ArrayList<>(lines);
            return a;
        }
    }

    All now = new All();
    LinkedList<All> past = new LinkedList<>();
    All[] images = new All[2];
    StringBuilder text = new StringBuilder();
    int kind = NONE, place = NONE;

    void change() {
        past.addLast(now.copy());
        if (past.size() > 8) {
            past.removeFirst();
        }
    }

    static boolean in(int v, int least, int most) {
        return least <= v && v <= most;
    }

    int cards() {
        return now.deck.size();
    }

    boolean isCard(int c) {
        return in(c, 0, cards() - 1);
    }

    int lay(int field, int first, int width) {
        if (!in(field, 0, 5) || !in(width, 1, field == 5 ? 1 : 4) || !in(first, 0, 24 - width)) {
            return BAD;
        }
        change();
        int old = now.lay[field][0];
        now.lay[field] = new int[] {first, width};
        return old;
    }

    int set(int s, int value) {
        if (!in(s, 0, 3) || value < 0 || value > (s == 0 ? 2 : s == 1 ? 1 : 9999)) {
            return BAD;
        }
        change();
        int old = now.set[s];
        now.set[s] = value;
        return old;
    }

    int control(int which, int value) {
        if (!in(which, 0, 2) || !(value == NONE || in(value, 0, 1000000))) {
            return BAD;
        }
        change();
        int old = now.control[which];
        now.control[which] = value;
        return old;
    }

    /** The numbers of the five fields, or null with kind and place set. */
    String[] parse() {
        String[] told = new String[5];
        String t = text.toString();
        int i = 0;
        boolean any = false;
        while (true) {
            while (i < t.length() && t.charAt(i) == ' ') {
                i++;
            }
            if (i == t.length()) {
                return any ? told : fault(4, i);
            }
            int field = "dgwhr".indexOf(t.charAt(i));
            if (field < 0) {
                return fault(1, i);
            }
            if (told[field] != null) {
                return fault(2, i);
            }
            i++;
            int start = i;
            while (i < t.length() && Character.isDigit(t.charAt(i))) {
                if (i - start == now.lay[field][1]) {
                    return fault(3, i);
                }
                i++;
            }
            if (i == start) {
                return i == t.length() ? fault(4, i) : fault(1, i);
            }
            if (i < t.length() && t.charAt(i) != ' ') {
                return fault(1, i);
            }
            told[field] = t.substring(start, i);
            any = true;
        }
    }

    String[] fault(int k, int p) {
        kind = k;
        place = p;
        return null;
    }

    int punch(int at) {
        if (!in(at, 0, cards())) {
            return BAD;
        }
        String[] told = parse();
        if (told == null) {
            return STATE;
        }
        if (cards() == 40) {
            return FULL;
        }
        change();
        Punched c = new Punched();
        for (int f = 0; f < 5; f++) {
            if (told[f] != null) {
                int w = now.lay[f][1];
                String padded = "0000".substring(0, w - told[f].length()) + told[f];
                for (int i = 0; i < w; i++) {
                    c.digits[now.lay[f][0] + i] = padded.charAt(i) - '0';
                }
            }
        }
        c.digits[now.lay[5][0]] = due(c);
        now.deck.add(at, c);
        return cards();
    }

    int due(Punched c) {
        int even = 0, odd = 0;
        for (int f = 0; f < 5; f++) {
            for (int i = 0; i < now.lay[f][1]; i++) {
                Integer d = c.digits[now.lay[f][0] + i];
                int v = d == null ? 0 : d;
                if ((i & 1) == 0) {
                    even += v;
                } else {
                    odd += v;
                }
            }
        }
        return (3 * even + odd) % 10;
    }

    int value(Punched c, int f) {
        StringBuilder b = new StringBuilder();
        for (int i = 0; i < now.lay[f][1]; i++) {
            Integer d = c.digits[now.lay[f][0] + i];
            if (d == null) {
                return NONE;
            }
            b.append(d);
        }
        return Integer.parseInt(b.toString());
    }

    int take(int c) {
        if (!isCard(c)) {
            return BAD;
        }
        change();
        now.deck.remove(c);
        return cards();
    }

    int rearrange(List<Punched> wanted) {
        int moved = 0;
        for (int i = 0; i < wanted.size(); i++) {
            moved += wanted.get(i) == now.deck.get(i) ? 0 : 1;
        }
        now.deck = wanted;
        return moved;
    }

    int move(int c, int to) {
        if (!isCard(c) || !isCard(to)) {
            return BAD;
        }
        change();
        List<Punched> wanted = new ArrayList<>(now.deck);
        wanted.add(to, wanted.remove(c));
        return rearrange(wanted);
    }

    int repunch(int c, int column, int digit) {
        if (!isCard(c) || !in(column, 0, 23) || !(digit == NONE || in(digit, 0, 9))) {
            return BAD;
        }
        change();
        Integer old = now.deck.get(c).digits[column];
        now.deck.get(c).digits[column] = digit == NONE ? null : (Integer) digit;
        return old == null ? NONE : old;
    }

    int mark(int c, int m, int column) {
        if (!isCard(c) || !in(column, 0, 23) || !in(m, 0, 3)) {
            return BAD;
        }
        change();
        int old = now.deck.get(c).mark;
        now.deck.get(c).mark = m;
        now.deck.get(c).torn = column;
        return old;
    }

    static void by(List<Punched> deck, int column) {
        deck.sort(Comparator.comparingInt(c -> c.digits[column] == null ? -1 : c.digits[column]));
    }

    int pass(int column) {
        if (!in(column, 0, 23)) {
            return BAD;
        }
        change();
        List<Punched> wanted = new ArrayList<>(now.deck);
        by(wanted, column);
        return rearrange(wanted);
    }

    int sort(int f) {
        if (!in(f, 0, 5)) {
            return BAD;
        }
        change();
        List<Punched> wanted = new ArrayList<>(now.deck);
        for (int i = now.lay[f][1] - 1; i >= 0; i--) {
            by(wanted, now.lay[f][0] + i);
        }
        return rearrange(wanted);
    }

    static int compare(List<Integer> a, List<Integer> b) {
        for (int i = 0; i < 3; i++) {
            if (!a.get(i).equals(b.get(i))) {
                return Integer.compare(a.get(i), b.get(i));
            }
        }
        return 0;
    }

    Punched asRead(Punched c) {
        Punched r = c.copy();
        if (c.mark == 2) {
            for (int i = 0; i < 24; i++) {
                r.digits[i] = i == 23 ? null : c.digits[i + 1];
            }
        } else if (c.mark == 3) {
            r.digits[c.torn] = null;
        }
        return r;
    }

    int alone(Punched c) {
        if (c.mark == 1) {
            return 1;
        }
        Punched r = asRead(c);
        for (int f = 0; f < 5; f++) {
            if (value(r, f) == NONE) {
                return 2;
            }
        }
        if (now.set[1] == 1 && value(r, 5) != due(r)) {
            return 3;
        }
        return value(r, 3) > now.set[2] ? 4 : 0;
    }

    List<Integer> feed(int rule, List<Slip> slips) {
        List<Integer> reasons = new ArrayList<>();
        List<Integer> latest = null;
        for (int i = 0; i < cards(); i++) {
            int why = alone(now.deck.get(i));
            if (why == 0) {
                Punched r = asRead(now.deck.get(i));
                List<Integer> key = Arrays.asList(value(r, 0), value(r, 1), value(r, 2));
                if (rule != 0 && latest != null && compare(key, latest) < 0) {
                    if (rule == 2) {
                        while (reasons.size() < cards()) {
                            reasons.add(6);
                        }
                        return reasons;
                    }
                    why = 5;
                } else {
                    Slip s = new Slip();
                    s.key = key;
                    s.hours = value(r, 3);
                    s.rate = value(r, 4);
                    s.number = i;
                    slips.add(s);
                    latest = key;
                }
            }
            reasons.add(why);
        }
        return reasons;
    }

    int run() {
        change();
        now.slips = new ArrayList<>();
        now.reasons = feed(now.set[0], now.slips);
        now.wasRun = true;
        now.runLimit = now.set[3];
        now.lines = new ArrayList<>();
        report(now.slips, 0);
        return now.slips.size();
    }

    /** Prints the cards of one level, in runs of the same number, and then its own line. */
    long[] report(List<Slip> slips, int level) {
        long[] sum = new long[4];
        int from = 0;
        while (from < slips.size()) {
            int to = from + 1;
            while (level < 3 && to < slips.size()
                && slips.get(to).key.get(level).equals(slips.get(from).key.get(level))) {
                to++;
            }
            long[] part;
            if (level < 3) {
                part = report(slips.subList(from, to), level + 1);
            } else {
                Slip s = slips.get(from);
                part = new long[] {1, s.hours, s.wage(), 0};
                now.lines.add(new long[] {0, s.key.get(0), s.key.get(1), s.key.get(2),
                    1, s.hours, s.wage(), 0, s.number});
            }
            for (int i = 0; i < 4; i++) {
                sum[i] += part[i];
            }
            from = to;
        }
        if (level == 3 && sum[1] > now.runLimit) {
            long extra = (sum[1] - now.runLimit) * slips.get(slips.size() - 1).rate / 20;
            sum[2] += extra;
            sum[3] += extra;
        }
        long[] line = {4 - level, NONE, NONE, NONE, sum[0], sum[1], sum[2], sum[3], NONE};
        for (int i = 0; i < level; i++) {
            line[1 + i] = slips.get(0).key.get(i);
        }
        now.lines.add(line);
        return sum;
    }

    int undo() {
        if (past.isEmpty()) {
            return STATE;
        }
        now = past.removeLast();
        return past.size();
    }

    int write(int code) {
        if (!in(code, 32, 126)) {
            return BAD;
        }
        if (text.length() == 50) {
            return FULL;
        }
        text.append((char) code);
        return text.length();
    }

    int wipe() {
        int n = text.length();
        text = new StringBuilder();
        return n;
    }

    int fault(int what) {
        return what == 0 ? kind : what == 1 ? place : BAD;
    }

    boolean ordered(List<Punched> deck) {
        List<Integer> latest = null;
        for (Punched c : deck) {
            List<Integer> key = Arrays.asList(value(c, 0), value(c, 1), value(c, 2));
            if (key.contains(NONE)) {
                continue;
            }
            if (latest != null && compare(latest, key) > 0) {
                return false;
            }
            latest = key;
        }
        return true;
    }

    int told(int what) {
        switch (what) {
            case 0: return cards();
            case 1: return now.lines.size();
            case 2: return now.wasRun ? now.slips.size() : NONE;
            case 3: return (int) now.reasons.stream().filter(r -> r >= 1 && r <= 5).count();
            case 4: return ordered(now.deck) ? 1 : 0;
            case 5: return text.length();
            case 6: return past.size();
            default: return BAD;
        }
    }

    int setting(int s) {
        return in(s, 0, 3) ? now.set[s] : BAD;
    }

    int field(int f, int what) {
        return in(f, 0, 5) && in(what, 0, 1) ? now.lay[f][what] : BAD;
    }

    int column(int c, int column) {
        if (!isCard(c) || !in(column, 0, 23)) {
            return BAD;
        }
        Integer d = now.deck.get(c).digits[column];
        return d == null ? NONE : d;
    }

    int card(int c, int what) {
        if (!isCard(c) || !in(what, 0, 9)) {
            return BAD;
        }
        Punched p = now.deck.get(c);
        return what < 6 ? value(p, what)
            : what == 6 ? due(p) : what == 7 ? p.mark : what == 8 ? p.torn : alone(p);
    }

    int line(int line, int what) {
        return in(line, 0, now.lines.size() - 1) && in(what, 0, 8)
            ? Math.toIntExact(now.lines.get(line)[what]) : BAD;
    }

    int reason(int k) {
        return in(k, 0, now.reasons.size() - 1) ? now.reasons.get(k) : BAD;
    }

    int differs(int which) {
        if (!in(which, 0, 2)) {
            return BAD;
        }
        if (now.control[which] == NONE || !now.wasRun) {
            return NONE;
        }
        int total = 0;
        for (Slip s : now.slips) {
            total += which == 0 ? 1 : which == 1 ? s.hours : s.key.get(2);
        }
        return total - now.control[which];
    }

    /** By key: cards, hours, wages, overtime. */
    TreeMap<List<Integer>, long[]> second() {
        TreeMap<List<Integer>, long[]> sums = new TreeMap<>(Model::compare);
        TreeMap<List<Integer>, Integer> rates = new TreeMap<>(Model::compare);
        for (Slip s : now.slips) {
            long[] sum = sums.computeIfAbsent(s.key, k -> new long[4]);
            sum[0]++;
            sum[1] += s.hours;
            sum[2] += s.wage();
            rates.put(s.key, s.rate);
        }
        for (List<Integer> key : sums.keySet()) {
            long[] sum = sums.get(key);
            sum[3] = Math.max(0, sum[1] - now.runLimit) * rates.get(key) / 20;
            sum[2] += sum[3];
        }
        return sums;
    }

    int again(int department, int what) {
        if (department < -1 || !in(what, 0, 4)) {
            return BAD;
        }
        long total = 0;
        TreeMap<List<Integer>, long[]> sums = second();
        for (List<Integer> key : sums.keySet()) {
            if (department == -1 || key.get(0) == department) {
                total += what == 4 ? 1 : sums.get(key)[what];
            }
        }
        return Math.toIntExact(total);
    }

    int agrees() {
        if (!now.wasRun) {
            return 1;
        }
        long[] last = now.lines.get(now.lines.size() - 1);
        for (int i = 0; i < 4; i++) {
            if (last[4 + i] != again(-1, i)) {
                return 0;
            }
        }
        return 1;
    }

    int ranked(int k, int what) {
        if (k < 0 || !in(what, 0, 3)) {
            return BAD;
        }
        TreeMap<List<Integer>, long[]> sums = second();
        List<List<Integer>> keys = new ArrayList<>(sums.keySet());
        keys.sort((a, b) -> Long.compare(sums.get(b)[2], sums.get(a)[2]));
        if (k >= keys.size()) {
            return NONE;
        }
        return what < 3 ? keys.get(k).get(what) : Math.toIntExact(sums.get(keys.get(k))[2]);
    }

    float mean() {
        if (!now.wasRun) {
            return 0;
        }
        long[] last = now.lines.get(now.lines.size() - 1);
        return last[5] == 0 ? 0 : (float) (last[6] * 10) / (float) last[5];
    }

    int passes() {
        List<Integer> columns = new ArrayList<>();
        for (int f = 2; f >= 0; f--) {
            for (int i = now.lay[f][1] - 1; i >= 0; i--) {
                columns.add(now.lay[f][0] + i);
            }
        }
        for (int n = 0; n <= columns.size(); n++) {
            List<Punched> deck = new ArrayList<>(now.deck);
            for (int column : columns.subList(columns.size() - n, columns.size())) {
                by(deck, column);
            }
            if (ordered(deck)) {
                return n;
            }
        }
        return NONE;
    }

    int accepts(int rule) {
        if (!in(rule, 0, 2)) {
            return BAD;
        }
        List<Slip> slips = new ArrayList<>();
        feed(rule, slips);
        return slips.size();
    }

    int keep(int i) {
        if (!in(i, 0, 1)) {
            return BAD;
        }
        images[i] = now.copy();
        return cards();
    }

    int back(int i) {
        if (!in(i, 0, 1)) {
            return BAD;
        }
        if (images[i] == null) {
            return STATE;
        }
        change();
        now = images[i].copy();
        return cards();
    }
}
