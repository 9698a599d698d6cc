import java.math.BigInteger;
import java.util.ArrayList;
import java.util.Arrays;
import java.util.HashMap;
import java.util.List;
import java.util.Map;
import java.util.NoSuchElementException;

/**
 * The document told once more, slowly and by other ways than the class goes: the tests play the same calls on both.
 * It may use all of the Java library, and tries everything where the class reckons.
 */
final class Model {
    static final String FIRST_RULE = "d*o+(1-d)*(o+9)/2";

    /** What undo() brings back, and how many PEOPLE there are. */
    static final class State {
        int people;
        int hour;
        int[][] opinion = new int[6][6];
        int[][] debt = new int[6][6];
        int[] cash = new int[6];
        int[] honour = new int[6];
        int[] times = new int[6];
        int[] dead = new int[6];
        int[] heard = new int[6];

        State copy() {
            State s = new State();
            s.people = people;
            s.hour = hour;
            for (int i = 0; i < 6; i++) {
                s.opinion[i] = opinion[i].clone();
                s.debt[i] = debt[i].clone();
            }
            s.cash = cash.clone();
            s.honour = honour.clone();
            s.times = times.clone();
            s.dead = dead.clone();
            s.heard = heard.clone();
            return s;
        }

        boolean has(int i) {
            return i >= 0 && i < people;
        }

        int all(int[] numbers) {
            return Arrays.stream(numbers).limit(people).sum();
        }

        int worth(int i) {
            int sum = cash[i];
            for (int j = 0; j < people; j++) {
                sum += debt[j][i] - debt[i][j];
            }
            return sum;
        }

        int deadOnes() {
            return (int) Arrays.stream(dead).limit(people).filter(d -> d > 0).count();
        }
    }

    State now = new State();
    String ruleText = FIRST_RULE;
    String text = "";
    List<Long> told = new ArrayList<>();
    List<State> past = new ArrayList<>();
    State[] kept = new State[2];
    List<int[]> hearsay = new ArrayList<>();
    List<int[]> listened = new ArrayList<>();

    private void tell(long... numbers) {
        told = new ArrayList<>();
        for (long n : numbers) {
            told.add(n);
        }
    }

    private String takeText() {
        String t = text;
        text = "";
        return t;
    }

    // ---- texts

    int sign(int v) {
        if (text.length() > 76) {
            return -1;
        }
        text += "" + (char) (v >>> 24) + (char) (v >> 16 & 255) + (char) (v >> 8 & 255) + (char) (v & 255);
        return text.length();
    }

    boolean end(int n) {
        if (n < 0 || n > text.length()) {
            return false;
        }
        text = text.substring(0, n);
        return true;
    }

    /** Could a text that begins so be right, of lines? */
    private boolean linesBegin(String t, int room) {
        for (int i = 0; i < t.length(); i++) {
            if (i / 8 >= room || i % 8 < 7 != "0123456789".indexOf(t.charAt(i)) >= 0
                    || i % 8 == 7 && t.charAt(i) != ';') {
                return false;
            }
        }
        return true;
    }

    int people() {
        String t = takeText();
        if (t.isEmpty()) {
            return 0;
        }
        for (int p = 0; p < t.length(); p++) {
            if (p == 47 || !linesBegin(t.substring(0, p + 1), 6 - now.people)) {
                return -1 - p;
            }
        }
        if (t.length() % 8 != 7) {
            return -1 - t.length();
        }
        for (String line : t.split(";")) {
            for (int i = 0; i < 6; i++) {
                now.opinion[now.people][i] = line.charAt(i) - '0';
            }
            now.cash[now.people++] = line.charAt(6) - '0';
        }
        past.clear();
        return (t.length() + 1) / 8;
    }

    /** Where a rule goes wrong, or -1; sign by sign, with what is open remembered. */
    static int wrongInRule(String t) {
        List<Boolean> compared = new ArrayList<>(List.of(false));
        boolean due = true;
        int digits = 0;
        for (int p = 0; p < t.length(); p++) {
            char c = t.charAt(p);
            int deep = compared.size() - 1;
            if (p == 40) {
                return p;
            }
            if (due) {
                digits = 0;
                if (c >= '0' && c <= '9') {
                    due = false;
                    digits = 1;
                } else if ("odtefn".indexOf(c) >= 0) {
                    due = false;
                } else if (c == '(' && deep < 4) {
                    compared.add(false);
                } else if (c != '-') {
                    return p;
                }
            } else if (c >= '0' && c <= '9') {
                if (digits == 0 || digits == 3) {
                    return p;
                }
                digits++;
            } else if ("+-*/".indexOf(c) >= 0) {
                due = true;
            } else if ("<>=".indexOf(c) >= 0 && !compared.get(deep)) {
                compared.set(deep, true);
                due = true;
            } else if (c == ')' && deep > 0) {
                compared.remove(deep);
                digits = 0;
            } else {
                return p;
            }
        }
        return due || compared.size() > 1 ? t.length() : -1;
    }

    /** The last place of one of these signs that stands between two things, in no brackets; -1 if none does. */
    private static int lastOf(String t, String signs) {
        int deep = 0;
        for (int i = t.length() - 1; i > 0; i--) {
            char c = t.charAt(i);
            deep += c == ')' ? 1 : c == '(' ? -1 : 0;
            char before = t.charAt(i - 1);
            boolean between = before == ')' || Character.isLetterOrDigit(before);
            if (deep == 0 && between && signs.indexOf(c) >= 0) {
                return i;
            }
        }
        return -1;
    }

    static int value(String t, State s, int one, int other) {
        for (String signs : new String[] {"<>=", "+-", "*/"}) {
            int i = lastOf(t, signs);
            if (i >= 0) {
                int a = value(t.substring(0, i), s, one, other);
                int b = value(t.substring(i + 1), s, one, other);
                return switch (t.charAt(i)) {
                    case '<' -> a < b ? 1 : 0;
                    case '>' -> a > b ? 1 : 0;
                    case '=' -> a == b ? 1 : 0;
                    case '+' -> a + b;
                    case '-' -> a - b;
                    case '*' -> a * b;
                    default -> b == 0 ? 0 : a / b;
                };
            }
        }
        return switch (t.charAt(0)) {
            case '-' -> -value(t.substring(1), s, one, other);
            case '(' -> value(t.substring(1, t.length() - 1), s, one, other);
            case 'o' -> s.opinion[one][other];
            case 'd' -> s.dead[other] > 0 ? 1 : 0;
            case 't' -> s.times[other];
            case 'e' -> s.debt[one][other];
            case 'f' -> s.debt[other][one];
            case 'n' -> s.hour % 12;
            default -> Integer.parseInt(t);
        };
    }

    static int words(String rule, State s, int one, int other) {
        return Math.max(0, Math.min(9, value(rule, s, one, other)));
    }

    int rule() {
        String t = takeText();
        int wrong = t.isEmpty() ? -1 : wrongInRule(t);
        if (wrong >= 0) {
            return -1 - wrong;
        }
        ruleText = t.isEmpty() ? FIRST_RULE : t;
        return 0;
    }

    // ---- people

    int person(int i, int what) {
        if (!now.has(i) || what < 0 || what > 6) {
            throw new NoSuchElementException();
        }
        int owes = 0;
        int owed = 0;
        for (int j = 0; j < 6; j++) {
            owes += now.debt[i][j];
            owed += now.debt[j][i];
        }
        return new int[] {now.cash[i], now.honour[i], now.times[i], now.dead[i], now.heard[i], owes, owed}[what];
    }

    int between(int i, int j, int what) {
        if (!now.has(i) || !now.has(j) || i == j || what < 0 || what > 2) {
            throw new NoSuchElementException();
        }
        return new int[] {now.opinion[i][j], words(ruleText, now, i, j), now.debt[i][j]}[what];
    }

    int sheet(int kind, int n, int f, int step) {
        if (kind < 0 || kind > 3 || n > 6) {
            return -1;
        }
        if (kind < 3 && n < 0) {
            return -2;
        }
        Arrays.fill(now.cash, 0, now.people, 0);
        if (kind == 3) {
            return -3;
        }
        int e = f;
        for (int i = 0; i < n && i < now.people; i++, e += step) {
            int v = kind == 0 ? (byte) e : kind == 1 ? (short) e : e;
            now.cash[i] = Math.max(0, Math.min(99, v));
        }
        return now.all(now.cash);
    }

    // ---- afternoons

    /** The state an hour later; the old one is left as it is, and all is read from it. */
    static State hour(State s, String rule) {
        State t = s.copy();
        t.hour = s.hour + 1;
        for (int i = 0; i < s.people; i++) {
            for (int j = 0; j < s.people; j++) {
                if (i != j && s.dead[i] > 0 && s.dead[j] == 0) {
                    t.honour[i] = Math.min(9999, t.honour[i] + words(rule, s, j, i));
                    t.heard[i] |= 1 << j;
                }
                if (s.debt[i][j] > 0 && s.dead[i] == 0 && s.dead[j] == 0) {
                    t.debt[i][j] = Math.min(99, s.debt[i][j] + 1);
                }
            }
        }
        for (int i = 0; i < s.people; i++) {
            t.dead[i] = Math.max(0, s.dead[i] - 1);
            for (int j = 0; j < s.people; j++) {
                if (s.dead[i] == 1 && (t.heard[i] & 1 << j) != 0) {
                    int w = words(rule, s, j, i);
                    t.opinion[i][j] += w > s.opinion[i][j] ? 1 : w < s.opinion[i][j] ? -1 : 0;
                }
            }
        }
        return t;
    }

    static State hours(State s, String rule, int n) {
        State t = s.copy();
        for (int i = 0; i < n; i++) {
            t = hour(t, rule);
        }
        return t;
    }

    private int done(State before, int answer) {
        if (answer >= 0) {
            past.add(before);
            if (past.size() > 12) {
                past.remove(0);
            }
        }
        return answer;
    }

    int hours(int n) {
        if (n < 0 || n > 60) {
            return -1;
        }
        State before = now.copy();
        int woken = 0;
        for (int k = 0; k < n; k++) {
            State next = hour(now, ruleText);
            woken += now.deadOnes() - next.deadOnes();
            now = next;
        }
        if (n > 0) {
            done(before, 0);
        }
        tell(now.all(now.honour) - before.all(before.honour), woken);
        return now.deadOnes();
    }

    static int die(State s, int i, int n) {
        if (!s.has(i) || n < 1 || n > 9) {
            return -1;
        }
        if (s.dead[i] > 0) {
            return -2;
        }
        s.dead[i] = n;
        s.times[i] = Math.min(99, s.times[i] + 1);
        s.heard[i] = 0;
        return s.deadOnes();
    }

    static int cough(State s, int i) {
        if (!s.has(i)) {
            return -1;
        }
        if (s.dead[i] == 0) {
            return -2;
        }
        s.dead[i] = 0;
        s.honour[i] = s.honour[i] / 2;
        return s.honour[i];
    }

    /** Money from one to another, DEBT of debtor to creditor changing by as much up or down. */
    private static int move(State s, int from, int to, int n, boolean loan) {
        if (!s.has(from) || !s.has(to) || from == to || n < 1 || n > 99) {
            return -1;
        }
        if (s.dead[from] + s.dead[to] > 0) {
            return -4;
        }
        if (s.cash[from] < n) {
            return -2;
        }
        int debtor = loan ? to : from;
        int creditor = loan ? from : to;
        int debt = s.debt[debtor][creditor] + (loan ? n : -n);
        if (s.cash[to] + n > 99 || debt < 0 || debt > 99) {
            return -3;
        }
        s.cash[from] -= n;
        s.cash[to] += n;
        s.debt[debtor][creditor] = debt;
        return debt;
    }

    int dies(int i, int n) {
        return done(now.copy(), die(now, i, n));
    }

    int coughs(int i) {
        return done(now.copy(), cough(now, i));
    }

    int lends(int i, int j, int n) {
        return done(now.copy(), move(now, i, j, n, true));
    }

    int pays(int i, int j, int n) {
        return done(now.copy(), move(now, i, j, n, false));
    }

    /** The acts of a text one by one, by a pattern; what is left over behind them shows the wrong place. */
    int afternoon() {
        String t = takeText();
        List<String> acts = new ArrayList<>();
        int at = 0;
        String cut = t.length() > 60 ? t.substring(0, 60) : t;
        java.util.regex.Matcher m = java.util.regex.Pattern
                .compile("h[0-9]|d[0-9][1-9]|c[0-9]|[lp][0-9][0-9][1-9]").matcher(cut);
        while (m.find() && m.start() == at) {
            acts.add(m.group());
            at = m.end();
        }
        if (at < cut.length()) {
            int p = at;
            String begins = "h|d[0-9]?|c|[lp][0-9]{0,2}";
            while (p < cut.length() && cut.substring(at, p + 1).matches(begins)) {
                p++;
            }
            return -1 - p;
        }
        if (t.length() > 60) {
            return -61;
        }
        State before = now.copy();
        int count = 0;
        boolean stopped = false;
        for (String a : acts) {
            int x = a.charAt(1) - '0';
            int y = a.length() > 2 ? a.charAt(2) - '0' : 0;
            int z = a.length() > 3 ? a.charAt(3) - '0' : 0;
            int answer = 0;
            switch (a.charAt(0)) {
                case 'h' -> now = hours(now, ruleText, x);
                case 'd' -> answer = die(now, x, y);
                case 'c' -> answer = cough(now, x);
                case 'l' -> answer = move(now, x, y, z, true);
                default -> answer = move(now, x, y, z, false);
            }
            if (answer < 0) {
                stopped = true;
                break;
            }
            count++;
        }
        if (count > 0) {
            done(before, 0);
        }
        tell(stopped ? 1 : 0, now.all(now.honour));
        return count;
    }

    int undo() {
        if (past.isEmpty()) {
            return -1;
        }
        now = past.remove(past.size() - 1);
        return past.size();
    }

    // ---- what is said, honours

    int said(int i) {
        if (!now.has(i)) {
            return -1;
        }
        tell();
        int sum = 0;
        for (int j = 0; j < now.people; j++) {
            if (j != i && now.dead[j] == 0) {
                told.add((long) words(ruleText, now, j, i));
                sum += words(ruleText, now, j, i);
            }
        }
        return sum;
    }

    private static boolean ahead(int n) {
        return n >= 0 && n <= 99;
    }

    int later(int i, int n) {
        if (!now.has(i) || !ahead(n)) {
            return -1;
        }
        State s = hours(now, ruleText, n);
        tell(Arrays.stream(s.honour).limit(s.people).asLongStream().toArray());
        return s.honour[i];
    }

    int most(int n) {
        if (!ahead(n)) {
            return -1;
        }
        if (now.people == 0) {
            return -2;
        }
        State s = hours(now, ruleText, n);
        int most = Arrays.stream(s.honour).limit(s.people).max().getAsInt();
        int least = Arrays.stream(s.honour).limit(s.people).min().getAsInt();
        List<Integer> list = new ArrayList<>();
        for (int i = 0; i < s.people; i++) {
            list.add(s.honour[i]);
        }
        tell(most, list.indexOf(least));
        return list.indexOf(most);
    }

    int longest(int i) {
        if (!now.has(i)) {
            return -1;
        }
        if (now.dead[i] > 0) {
            return -2;
        }
        int best = 9;
        int honour = -1;
        for (int n = 9; n >= 1; n--) {
            State s = now.copy();
            die(s, i, n);
            s = hours(s, ruleText, 12);
            if (s.honour[i] >= honour) {
                honour = s.honour[i];
                best = n;
            }
        }
        tell(honour, hours(now, ruleText, 12).honour[i]);
        return best;
    }

    int together(int n) {
        if (n < 1 || n > 9) {
            return -1;
        }
        int best = -1;
        int bestSet = 0;
        for (int set = 63; set >= 0; set--) {
            State s = now.copy();
            boolean can = true;
            for (int i = 0; i < 6; i++) {
                can &= (set & 1 << i) == 0 || die(s, i, n) >= 0;
            }
            int h = can ? hours(s, ruleText, n).all(hours(s, ruleText, n).honour) : -1;
            if (can && h >= best) {
                best = h;
                bestSet = set;
            }
        }
        tell(bestSet);
        return best;
    }

    int heir(int i, int n) {
        if (!now.has(i) || n < 1 || n > 9) {
            return -1;
        }
        int best = -2;
        int worth = 0;
        for (int j = now.people - 1; j >= 0; j--) {
            State s = now.copy();
            if (j != i && die(s, j, n) >= 0) {
                int w = hours(s, ruleText, n).worth(i);
                if (best == -2 || w >= worth) {
                    best = j;
                    worth = w;
                }
            }
        }
        if (best >= 0) {
            tell(1000 + worth, 1000 + hours(now, ruleText, n).worth(i));
        }
        return best;
    }

    int thinks(int i, int j, int n) {
        if (!now.has(i) || !now.has(j) || i == j || !ahead(n)) {
            return -1;
        }
        int changed = 0;
        for (int k = 0; k < n; k++) {
            changed += hours(now, ruleText, k).opinion[i][j] != hours(now, ruleText, k + 1).opinion[i][j] ? 1 : 0;
        }
        tell(changed);
        return hours(now, ruleText, n).opinion[i][j];
    }

    int flattery() {
        if (now.people < 2) {
            return -2;
        }
        int best = -1;
        for (int i = now.people - 1; i >= 0; i--) {
            for (int j = now.people - 1; j >= 0; j--) {
                int more = i == j ? 0 : words(ruleText, now, i, j) - now.opinion[i][j];
                if (i != j && Math.abs(more) >= best) {
                    best = Math.abs(more);
                    tell(i, j, more > 0 ? 1 : 0);
                }
            }
        }
        return best;
    }

    int wakes() {
        for (int h = 1; h <= 9; h++) {
            for (int i = 0; i < now.people; i++) {
                if (now.dead[i] == h) {
                    tell(h, hours(now, ruleText, h).honour[i]);
                    return i;
                }
            }
        }
        return -2;
    }

    int echo(int i) {
        if (!now.has(i)) {
            return -1;
        }
        int set = 0;
        for (int j = 0; j < 6; j++) {
            set |= (now.heard[j] >> i & 1) << j;
        }
        tell(Integer.bitCount(set), now.heard[i] & set);
        return set;
    }

    // ---- debts

    int owes(int i, int j, int n) {
        if (!now.has(i) || !now.has(j) || i == j || !ahead(n)) {
            return -1;
        }
        int grew = 0;
        for (int k = 0; k < n; k++) {
            grew += hours(now, ruleText, k).debt[i][j] < hours(now, ruleText, k + 1).debt[i][j] ? 1 : 0;
        }
        tell(grew);
        return hours(now, ruleText, n).debt[i][j];
    }

    /** The fewest payments that make all balances 0, the first one that is not 0 paying or being paid by each. */
    private static int fewest(int[] balance, int from) {
        int at = from;
        while (at < balance.length && balance[at] == 0) {
            at++;
        }
        if (at == balance.length) {
            return 0;
        }
        int best = 99;
        for (int j = at + 1; j < balance.length; j++) {
            if ((long) balance[j] * balance[at] < 0) {
                balance[j] += balance[at];
                best = Math.min(best, 1 + fewest(balance, at + 1));
                balance[j] -= balance[at];
            }
        }
        return best;
    }

    private int[] balances() {
        int[] b = new int[now.people];
        for (int i = 0; i < b.length; i++) {
            b[i] = now.worth(i) - now.cash[i];
        }
        return b;
    }

    int settles() {
        int[] b = balances();
        tell(Arrays.stream(b).asLongStream().map(v -> 1000 + v).toArray());
        return fewest(b, 0);
    }

    int groups() {
        if (now.people == 0) {
            tell();
            return 0;
        }
        int[] best = {0, 0};
        part(balances(), new int[now.people], 0, 0, best);
        tell(best[1]);
        return best[0];
    }

    /** All ways to part them, each put into a group that there is or into a new one. */
    private static void part(int[] b, int[] group, int at, int used, int[] best) {
        if (at == b.length) {
            int[] sums = new int[used];
            int first = 0;
            for (int i = 0; i < b.length; i++) {
                sums[group[i]] += b[i];
                first |= group[i] == 0 ? 1 << i : 0;
            }
            boolean even = Arrays.stream(sums).allMatch(v -> v == 0);
            if (even && (used > best[0] || used == best[0] && first < best[1])) {
                best[0] = used;
                best[1] = first;
            }
            return;
        }
        for (int g = 0; g <= used; g++) {
            group[at] = g;
            part(b, group, at + 1, Math.max(used, g + 1), best);
        }
    }

    // ---- streets

    int streets() {
        String t = takeText();
        for (int p = 0; p < t.length(); p++) {
            if (p == 6 || !Character.isDigit(t.charAt(p)) || t.charAt(p) > '9') {
                return -1 - p;
            }
        }
        if (t.isEmpty()) {
            return -1;
        }
        int[][] best = {new int[t.length()], {-1}};
        name(t, new int[t.length()], 0, 0, best);
        tell(Arrays.stream(best[0]).asLongStream().toArray());
        return best[1][0];
    }

    /** All rows, in their order, so that the first one of the most names is the least. */
    private void name(String t, int[] names, int at, int count, int[][] best) {
        if (at == names.length) {
            if (count > best[1][0]) {
                best[1][0] = count;
                best[0] = names.clone();
            }
            return;
        }
        for (int i = -1; i < now.people; i++) {
            int who = i;
            boolean taken = i >= 0 && Arrays.stream(names).limit(at).anyMatch(x -> x == who);
            if (i < 0 || !taken && now.honour[i] >= 10 * (t.charAt(at) - '0')) {
                names[at] = i;
                name(t, names, at + 1, count + (i >= 0 ? 1 : 0), best);
            }
        }
    }

    // ---- who it was

    int heard(int what, int v) {
        int[] most = {99, 1, 9, 1, 99};
        if (what < 0 || what > 4 || v < 0 || v > most[what] || hearsay.size() == 12) {
            return -1;
        }
        hearsay.add(new int[] {what, v});
        return hearsay.size();
    }

    int forget() {
        int n = hearsay.size();
        hearsay.clear();
        return n;
    }

    private List<Integer> fitting() {
        List<Integer> list = new ArrayList<>();
        for (int i = 0; i < now.people; i++) {
            boolean fits = true;
            for (int[] h : hearsay) {
                boolean owes = Arrays.stream(now.debt[i]).sum() > 0;
                fits &= h[0] == 0 && now.cash[i] >= h[1]
                        || h[0] == 1 && now.dead[i] > 0 == (h[1] == 1)
                        || h[0] == 2 && i > 0 && words(ruleText, now, i, 0) == h[1]
                        || h[0] == 3 && owes == (h[1] == 1)
                        || h[0] == 4 && now.times[i] <= h[1];
            }
            if (fits) {
                list.add(i);
            }
        }
        return list;
    }

    int fits() {
        tell(fitting().size());
        return fitting().stream().mapToInt(i -> 1 << i).sum();
    }

    int asks() {
        List<Integer> list = fitting();
        if (list.isEmpty()) {
            return -2;
        }
        int best = 99;
        long least = 99;
        for (int v = 99; v >= 0; v--) {
            int ask = v;
            long yes = list.stream().filter(i -> now.cash[i] >= ask).count();
            long worst = Math.max(yes, list.size() - yes);
            if (worst <= least) {
                least = worst;
                best = v;
            }
        }
        tell(least);
        return best;
    }

    // ---- a law of speaking

    int listens(int o, int dead, int w) {
        if (o < 0 || o > 9 || dead < 0 || dead > 1 || w < 0 || w > 9 || listened.size() == 12) {
            return -1;
        }
        listened.add(new int[] {o, dead, w});
        return listened.size();
    }

    int doubts() {
        int n = listened.size();
        listened.clear();
        return n;
    }

    private List<int[]> lawsThatFit(List<int[]> to) {
        List<int[]> list = new ArrayList<>();
        for (int a = -9; a <= 9; a++) {
            for (int b = -9; b <= 9; b++) {
                boolean fits = true;
                for (int[] l : to) {
                    int v = l[0] + (l[1] == 1 ? b : a);
                    fits &= (v < 0 ? 0 : v > 9 ? 9 : v) == l[2];
                }
                if (fits) {
                    list.add(new int[] {a, b});
                }
            }
        }
        return list;
    }

    int laws() {
        List<int[]> list = lawsThatFit(listened);
        tell();
        if (!list.isEmpty()) {
            tell(list.get(0)[0], list.get(0)[1]);
        }
        return list.size();
    }

    int tries() {
        if (lawsThatFit(listened).isEmpty()) {
            return -2;
        }
        int best = -1;
        int least = 999;
        for (int q = 0; q < 20; q++) {
            int worst = 0;
            for (int w = 0; w < 10; w++) {
                List<int[]> more = new ArrayList<>(listened);
                more.add(new int[] {q % 10, q / 10, w});
                worst = Math.max(worst, lawsThatFit(more).size());
            }
            if (worst < least) {
                least = worst;
                best = q;
            }
        }
        tell(least);
        return best;
    }

    // ---- the bank, coughs

    /** Does who is to take win? Coins, k, and whether he and the other one may still take k. */
    private static boolean wins(int n, int k, boolean mine, boolean his, Map<String, Boolean> seen) {
        if (n == 0) {
            return true;
        }
        String key = n + " " + mine + " " + his;
        if (!seen.containsKey(key)) {
            boolean w = !wins(n - 1, k, his, mine, seen)
                    || n / 2 > 0 && !wins(n - n / 2, k, his, mine, seen)
                    || mine && n >= k && !wins(n - k, k, his, false, seen);
            seen.put(key, w);
        }
        return seen.get(key);
    }

    int bank(int n, int k) {
        if (n < 0 || n > 99 || k < 2 || k > 9) {
            return -1;
        }
        if (n == 0) {
            return -2;
        }
        Map<String, Boolean> seen = new HashMap<>();
        tell();
        for (int take = 1; take <= n; take++) {
            boolean plain = take == 1 || take == n / 2;
            if (plain && !wins(n - take, k, true, true, seen)
                    || take == k && !wins(n - take, k, true, false, seen)) {
                tell(take, plain ? 0 : 1);
                return 1;
            }
        }
        return 0;
    }

    int quiet(int k, int p) {
        if (k < 0 || k > 6 || p < 0 || p > 10) {
            return -1;
        }
        if (now.all(now.dead) > 16) {
            return -2;
        }
        BigInteger upper = BigInteger.ZERO;
        BigInteger lower = BigInteger.TEN.pow(now.all(now.dead));
        for (int set = 0; set < 64; set++) {
            BigInteger way = BigInteger.ONE;
            for (int i = 0; i < 6; i++) {
                BigInteger still = BigInteger.valueOf(10 - p).pow(now.dead[i]);
                boolean in = (set & 1 << i) != 0;
                BigInteger mine = in ? still : BigInteger.TEN.pow(now.dead[i]).subtract(still);
                way = way.multiply(now.dead[i] > 0 ? mine : in ? BigInteger.ZERO : BigInteger.ONE);
            }
            upper = Integer.bitCount(set) >= k ? upper.add(way) : upper;
        }
        BigInteger g = upper.gcd(lower);
        tell(upper.divide(g).longValueExact(), lower.divide(g).longValueExact());
        return 0;
    }

    // ---- rests, rules, years

    private static int has(int x, int y, int v, int c) {
        int got = x > y ? v : x == y ? v / 2 : 0;
        int paid = x * c;
        return got - paid + (x >= y + 2 ? c : 0);
    }

    int rests(int v, int c) {
        if (v < 0 || v > 20 || c < 0 || c > 5) {
            return -1;
        }
        int count = 0;
        tell();
        for (int x = 9; x >= 0; x--) {
            for (int y = 9; y >= 0; y--) {
                boolean rests = true;
                for (int z = 0; z < 10; z++) {
                    rests &= has(z, y, v, c) <= has(x, y, v, c) && has(z, x, v, c) <= has(y, x, v, c);
                }
                if (rests) {
                    count++;
                    tell(x, y);
                }
            }
        }
        return count;
    }

    int law() {
        String t = takeText();
        int wrong = t.isEmpty() ? -1 : wrongInRule(t);
        if (wrong >= 0) {
            return -100000 - wrong;
        }
        State a = hours(now, t.isEmpty() ? FIRST_RULE : t, 12);
        State b = hours(now, ruleText, 12);
        tell(a.all(a.honour), b.all(b.honour));
        return a.all(a.honour) - b.all(b.honour);
    }

    private int drawn;

    private int draw(int n) {
        drawn = drawn * 1103515245 + 12345;
        return (int) (Integer.toUnsignedLong(drawn) / 65536 % n);
    }

    int years(int seed, int n) {
        if (n < 1 || n > 60) {
            return -1;
        }
        State s = now.copy();
        drawn = seed;
        for (int k = 0; k < n; k++) {
            int what = draw(4);
            if (what <= 1) {
                s = hour(s, ruleText);
            } else if (s.people > 0 && what == 2) {
                int who = draw(s.people);
                die(s, who, 1 + draw(9));
            } else if (s.people > 0) {
                cough(s, draw(s.people));
            }
        }
        tell(s.deadOnes(), s.all(s.times));
        return s.all(s.honour);
    }

    // ---- kept

    boolean keep(int i) {
        if (i != 0 && i != 1) {
            return false;
        }
        kept[i] = now.copy();
        return true;
    }

    boolean again(int i) {
        if (i != 0 && i != 1 || kept[i] == null || kept[i].people != now.people) {
            return false;
        }
        now = kept[i].copy();
        past.clear();
        return true;
    }

    int count(int what) {
        int deads = 0;
        int debts = 0;
        int opinions = 0;
        int words = 0;
        for (int i = 0; i < now.people; i++) {
            deads |= now.dead[i] > 0 ? 1 << i : 0;
            for (int j = 0; j < now.people; j++) {
                debts += now.debt[i][j];
                opinions += i == j ? 0 : now.opinion[i][j];
                words += i == j ? 0 : words(ruleText, now, i, j);
            }
        }
        int[] all = {now.people, now.hour, deads, now.all(now.cash), now.all(now.honour), now.all(now.times), debts,
            opinions, hearsay.size(), listened.size(), past.size(), told.size(), text.length(), words};
        return what < 0 || what >= all.length ? -1 : all[what];
    }

    long row(int i) {
        if (i < 0 || i >= told.size()) {
            throw new NoSuchElementException();
        }
        return told.get(i);
    }
}
