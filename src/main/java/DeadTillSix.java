import java.util.NoSuchElementException;

/**
 * A town where one is honoured only when dead: people are arranged to be dead for some hours,
 * sit behind a screen and hear what is said of them, by a rule told as a text.
 * The document's words (OPINION, WORDS, ROW and so on) are used in the comments as it uses them.
 */
public final class DeadTillSix {
    public static final int NONE = -1;

    /** What a reader of a text answers if no sign of it is wrong. */
    private static final int RIGHT = -1;
    private static final int MOST_PEOPLE = 6;
    private static final int PAIRS = MOST_PEOPLE * MOST_PEOPLE;
    private static final int SETS = 1 << MOST_PEOPLE;
    private static final int MOST_CASH = 99;
    private static final int MOST_DEBT = 99;
    private static final int MOST_HONOUR = 9999;
    private static final int MOST_TIMES = 99;
    private static final int MOST_DEAD = 9;
    private static final int MOST_WORDS = 9;
    private static final int LINE = 8;
    private static final int MOST_LINE_SIGNS = MOST_PEOPLE * LINE - 1;
    private static final int MOST_ACT_SIGNS = 60;
    private static final int MOST_HOURS = 60;
    private static final int FARTHEST = 99;
    private static final int HALF_A_DAY = 12;
    private static final int MOST_YEARS = 60;
    private static final int WORTH_BASE = 1000;
    private static final int WRONG_LAW = -100000;

    private final Text text = new Text();
    private final Row row = new Row();
    private final Town town = new Town();
    /** What questions play on, so that the town itself stays as it is. */
    private final Town trial = new Town();
    private final Clock clock = new Clock();
    private final Past past = new Past();
    private final Town firstKept = new Town();
    private final Town secondKept = new Town();
    private boolean firstIsKept;
    private boolean secondIsKept;
    private final Hearsay hearsay = new Hearsay();
    private final Shifts shifts = new Shifts();
    private final Games games = new Games();
    private final Partings partings = new Partings();
    private final Draws draws = new Draws();
    private Rule rule = new Rule();
    /** A rule that is being read, so that a wrong text leaves the other one alone. */
    private Rule spare = new Rule();

    public DeadTillSix() {
    }

    // ---- people

    public int sign(int v) {
        return text.add(v);
    }

    public boolean end(int n) {
        return text.cut(n);
    }

    public int people() {
        int length = text.length();
        int wrong = length == 0 ? RIGHT : wrongInLines(MOST_PEOPLE - town.people);
        int lines = (length + 1) / LINE;
        if (wrong == RIGHT && lines > 0) {
            for (int i = 0; i < lines; i++) {
                addLine(i * LINE);
            }
            past.forgetAll();
        }
        text.clear();
        return wrong == RIGHT ? lines : -1 - wrong;
    }

    private int wrongInLines(int room) {
        int length = text.length();
        for (int p = 0; p < MOST_LINE_SIGNS && p < length; p++) {
            int place = p % LINE;
            if (place == 0 && p / LINE >= room) {
                return p;
            }
            int sign = text.at(p);
            boolean fits = place == LINE - 1 ? sign == ';' : isDigit(sign);
            if (!fits) {
                return p;
            }
        }
        if (length > MOST_LINE_SIGNS) {
            return MOST_LINE_SIGNS;
        }
        return length % LINE == LINE - 1 ? RIGHT : length;
    }

    private void addLine(int from) {
        int person = town.people;
        if (person >= MOST_PEOPLE) {
            return;
        }
        for (int i = 0; i < MOST_PEOPLE; i++) {
            town.opinion[pair(person, i)] = text.at(from + i) - '0';
        }
        town.cash[person] = text.at(from + MOST_PEOPLE) - '0';
        town.people = person + 1;
    }

    public int rule() {
        int wrong = spare.read(text);
        text.clear();
        if (wrong != RIGHT) {
            return -1 - wrong;
        }
        Rule old = rule;
        rule = spare;
        spare = old;
        return 0;
    }

    public int person(int person, int what) throws NoSuchElementException {
        if (!town.has(person)) {
            throw new NoSuchElementException();
        }
        switch (what) {
            case 0:
                return town.cash[person];
            case 1:
                return town.honour[person];
            case 2:
                return town.times[person];
            case 3:
                return town.dead[person];
            case 4:
                return town.heard[person];
            case 5:
                return town.owedBy(person);
            case 6:
                return town.owedTo(person);
            default:
                throw new NoSuchElementException();
        }
    }

    public int between(int one, int other, int what) throws NoSuchElementException {
        if (!town.hasTwo(one, other)) {
            throw new NoSuchElementException();
        }
        switch (what) {
            case 0:
                return town.opinion[pair(one, other)];
            case 1:
                return rule.words(town, one, other);
            case 2:
                return town.debt[pair(one, other)];
            default:
                throw new NoSuchElementException();
        }
    }

    public int sheet(int kind, int n, int f, int step) {
        if (kind < 0 || kind > 3 || n > MOST_PEOPLE) {
            return NONE;
        }
        boolean missing = kind == 3;
        if (!missing && n < 0) {
            return -2;
        }
        for (int i = 0; i < town.people; i++) {
            boolean told = !missing && i < n;
            town.cash[i] = told ? within(entry(kind, f + i * step), MOST_CASH) : 0;
        }
        return missing ? -3 : town.sum(town.cash);
    }

    private static int entry(int kind, int value) {
        if (kind == 0) {
            return (byte) value;
        }
        return kind == 1 ? (short) value : value;
    }

    // ---- afternoons

    public int hours(int n) {
        if (n < 0 || n > MOST_HOURS) {
            return NONE;
        }
        past.note(town);
        int before = town.sum(town.honour);
        int woken = clock.run(town, rule, n);
        if (n > 0) {
            past.keepNoted();
        }
        row.tell(town.sum(town.honour) - before, woken);
        return town.deadCount();
    }

    public int dies(int person, int n) {
        past.note(town);
        return keptIfDone(town.letDie(person, n));
    }

    public int coughs(int person) {
        past.note(town);
        return keptIfDone(town.letCough(person));
    }

    public int lends(int one, int other, int n) {
        past.note(town);
        return keptIfDone(town.lend(one, other, n));
    }

    public int pays(int one, int other, int n) {
        past.note(town);
        return keptIfDone(town.pay(one, other, n));
    }

    private int keptIfDone(int answer) {
        if (answer >= 0) {
            past.keepNoted();
        }
        return answer;
    }

    public int afternoon() {
        int wrong = wrongInActs();
        if (wrong != RIGHT) {
            text.clear();
            return -1 - wrong;
        }
        past.note(town);
        int done = 0;
        int at = 0;
        boolean stopped = false;
        for (int i = 0; i < MOST_ACT_SIGNS && at < text.length() && !stopped; i++) {
            stopped = act(at) < 0;
            if (!stopped) {
                done++;
                at += 1 + digitsOfAct(text.at(at));
            }
        }
        text.clear();
        if (done > 0) {
            past.keepNoted();
        }
        row.tell(stopped ? 1 : 0, town.sum(town.honour));
        return done;
    }

    private int wrongInActs() {
        int length = text.length();
        int due = 0;
        int act = 0;
        for (int p = 0; p < MOST_ACT_SIGNS && p < length; p++) {
            int sign = text.at(p);
            if (due == 0) {
                act = sign;
                due = digitsOfAct(act);
                if (due == 0) {
                    return p;
                }
            } else {
                boolean zeroFits = due > 1 || act == 'h' || act == 'c';
                if (!isDigit(sign) || sign == '0' && !zeroFits) {
                    return p;
                }
                due--;
            }
        }
        if (length > MOST_ACT_SIGNS) {
            return MOST_ACT_SIGNS;
        }
        return due == 0 ? RIGHT : length;
    }

    /** How many digits an ACT of this letter has; 0 if there is no such ACT. */
    private static int digitsOfAct(int letter) {
        switch (letter) {
            case 'h':
            case 'c':
                return 1;
            case 'd':
                return 2;
            case 'l':
            case 'p':
                return 3;
            default:
                return 0;
        }
    }

    /** Does the ACT that begins at a place of THE TEXT; below 0 if it can't be. */
    private int act(int at) {
        int first = text.at(at + 1) - '0';
        int second = text.at(at + 2) - '0';
        int third = text.at(at + 3) - '0';
        switch (text.at(at)) {
            case 'h':
                return clock.run(town, rule, first);
            case 'd':
                return town.letDie(first, second);
            case 'c':
                return town.letCough(first);
            case 'l':
                return town.lend(first, second, third);
            case 'p':
                return town.pay(first, second, third);
            default:
                return NONE;
        }
    }

    public int undo() {
        return past.back(town) ? past.size() : NONE;
    }

    // ---- what is said, honours

    public int said(int person) {
        if (!town.has(person)) {
            return NONE;
        }
        row.clear();
        int sum = 0;
        for (int i = 0; i < town.people; i++) {
            if (i != person && town.lives(i)) {
                int words = rule.words(town, i, person);
                row.add(words);
                sum += words;
            }
        }
        return sum;
    }

    /** The trial becomes the town as it is in n hours, nothing being done. */
    private void lookAhead(int n) {
        trial.copy(town);
        clock.run(trial, rule, n);
    }

    /** Likewise, if somebody dies first. */
    private void lookAheadWithDeath(int person, int dead, int n) {
        trial.copy(town);
        trial.letDie(person, dead);
        clock.run(trial, rule, n);
    }

    private static boolean isAhead(int n) {
        return n >= 0 && n <= FARTHEST;
    }

    private static boolean isDeath(int n) {
        return n >= 1 && n <= MOST_DEAD;
    }

    public int later(int person, int n) {
        if (!town.has(person) || !isAhead(n)) {
            return NONE;
        }
        lookAhead(n);
        row.clear();
        for (int i = 0; i < trial.people; i++) {
            row.add(trial.honour[i]);
        }
        return trial.honour[person];
    }

    public int most(int n) {
        if (!isAhead(n)) {
            return NONE;
        }
        if (town.people == 0) {
            return -2;
        }
        lookAhead(n);
        int most = 0;
        int least = 0;
        for (int i = 1; i < trial.people; i++) {
            if (trial.honour[i] > trial.honour[most]) {
                most = i;
            }
            if (trial.honour[i] < trial.honour[least]) {
                least = i;
            }
        }
        row.tell(trial.honour[most], least);
        return most;
    }

    public int longest(int person) {
        if (!town.has(person)) {
            return NONE;
        }
        if (!town.lives(person)) {
            return -2;
        }
        int best = 0;
        int bestHonour = -1;
        for (int dead = 1; dead <= MOST_DEAD; dead++) {
            lookAheadWithDeath(person, dead, HALF_A_DAY);
            if (trial.honour[person] > bestHonour) {
                best = dead;
                bestHonour = trial.honour[person];
            }
        }
        lookAhead(HALF_A_DAY);
        row.tell(bestHonour, trial.honour[person]);
        return best;
    }

    public int together(int n) {
        if (!isDeath(n)) {
            return NONE;
        }
        int living = town.livingSet();
        int best = -1;
        int bestSet = 0;
        for (int set = 0; set <= living; set++) {
            if ((set & ~living) == 0) {
                int honour = honourIfDead(set, n);
                if (honour > best) {
                    best = honour;
                    bestSet = set;
                }
            }
        }
        row.tell(bestSet);
        return best;
    }

    private int honourIfDead(int set, int n) {
        trial.copy(town);
        for (int i = 0; i < trial.people; i++) {
            if (isIn(i, set)) {
                trial.letDie(i, n);
            }
        }
        clock.run(trial, rule, n);
        return trial.sum(trial.honour);
    }

    public int heir(int person, int n) {
        if (!town.has(person) || !isDeath(n)) {
            return NONE;
        }
        int best = NONE;
        int bestWorth = 0;
        for (int i = 0; i < town.people; i++) {
            if (i != person && town.lives(i)) {
                lookAheadWithDeath(i, n, n);
                int worth = trial.worth(person);
                if (best == NONE || worth > bestWorth) {
                    best = i;
                    bestWorth = worth;
                }
            }
        }
        if (best == NONE) {
            return -2;
        }
        lookAhead(n);
        row.tell(WORTH_BASE + bestWorth, WORTH_BASE + trial.worth(person));
        return best;
    }

    public int thinks(int one, int other, int n) {
        if (!town.hasTwo(one, other) || !isAhead(n)) {
            return NONE;
        }
        trial.copy(town);
        return watch(trial.opinion, pair(one, other), n);
    }

    /** Lets hours pass on the trial; the ROW is in how many of them one of its numbers changed: that number then. */
    private int watch(int[] numbers, int at, int n) {
        if (at < 0 || at >= numbers.length) {
            return NONE;
        }
        int changes = 0;
        for (int i = 0; i < n; i++) {
            int before = numbers[at];
            clock.run(trial, rule, 1);
            if (numbers[at] != before) {
                changes++;
            }
        }
        row.tell(changes);
        return numbers[at];
    }

    public int flattery() {
        if (town.people < 2) {
            return -2;
        }
        int best = -1;
        row.clear();
        for (int i = 0; i < town.people; i++) {
            for (int j = 0; j < town.people; j++) {
                int more = i == j ? 0 : rule.words(town, i, j) - town.opinion[pair(i, j)];
                if (i != j && Math.abs(more) > best) {
                    best = Math.abs(more);
                    row.tell(i, j, more > 0 ? 1 : 0);
                }
            }
        }
        return best;
    }

    public int wakes() {
        int first = NONE;
        for (int i = 0; i < town.people; i++) {
            if (!town.lives(i) && (first == NONE || town.dead[i] < town.dead[first])) {
                first = i;
            }
        }
        if (first == NONE) {
            return -2;
        }
        int hours = town.dead[first];
        lookAhead(hours);
        row.tell(hours, trial.honour[first]);
        return first;
    }

    public int echo(int person) {
        if (!town.has(person)) {
            return NONE;
        }
        int set = 0;
        for (int i = 0; i < town.people; i++) {
            if (isIn(person, town.heard[i])) {
                set |= 1 << i;
            }
        }
        row.tell(Integer.bitCount(set), town.heard[person] & set);
        return set;
    }

    // ---- debts

    public int owes(int one, int other, int n) {
        if (!town.hasTwo(one, other) || !isAhead(n)) {
            return NONE;
        }
        trial.copy(town);
        return watch(trial.debt, pair(one, other), n);
    }

    public int settles() {
        row.clear();
        for (int i = 0; i < town.people; i++) {
            row.add(WORTH_BASE + town.balance(i));
        }
        // Within a group that is even a payment fewer than it has members is enough, and needed.
        return town.people - partings.mostGroups(town);
    }

    public int groups() {
        int groups = partings.mostGroups(town);
        row.clear();
        if (town.people > 0) {
            row.add(partings.groupOfFirst(town));
        }
        return groups;
    }

    // ---- streets

    public int streets() {
        int wrong = partings.readStreets(text);
        text.clear();
        if (wrong != RIGHT) {
            return -1 - wrong;
        }
        return partings.nameStreets(town, row);
    }

    // ---- who it was

    public int heard(int what, int v) {
        return hearsay.add(what, v);
    }

    public int forget() {
        return hearsay.clear();
    }

    public int fits() {
        int set = hearsay.fitting(town, rule);
        row.tell(Integer.bitCount(set));
        return set;
    }

    public int asks() {
        int set = hearsay.fitting(town, rule);
        if (set == 0) {
            return -2;
        }
        int all = Integer.bitCount(set);
        int best = 0;
        int fewest = all;
        for (int v = 1; v <= MOST_CASH; v++) {
            int rich = town.richIn(set, v);
            int left = Math.max(rich, all - rich);
            if (left < fewest) {
                best = v;
                fewest = left;
            }
        }
        row.tell(fewest);
        return best;
    }

    // ---- a law of speaking

    public int listens(int o, int dead, int w) {
        return shifts.add(o, dead, w);
    }

    public int doubts() {
        return shifts.clear();
    }

    public int laws() {
        int count = shifts.fitting(0) * shifts.fitting(1);
        row.clear();
        if (count > 0) {
            row.tell(shifts.least(0), shifts.least(1));
        }
        return count;
    }

    public int tries() {
        int living = shifts.fitting(0);
        int dead = shifts.fitting(1);
        if (living * dead == 0) {
            return -2;
        }
        int best = 0;
        int fewest = living * dead;
        for (int i = 0; i < 20; i++) {
            // What is said of the living tells nothing of the dead, and the other way round.
            int left = i < 10 ? shifts.leftAtMost(0, i) * dead : shifts.leftAtMost(1, i - 10) * living;
            if (left < fewest) {
                best = i;
                fewest = left;
            }
        }
        row.tell(fewest);
        return best;
    }

    // ---- the bank, coughs

    public int bank(int n, int k) {
        if (n < 0 || n > Games.MOST_COINS || k < 2 || k > 9) {
            return NONE;
        }
        if (n == 0) {
            return -2;
        }
        int takes = games.winningTake(n, k);
        row.clear();
        if (takes == 0) {
            return 0;
        }
        row.tell(takes, takes == 1 || takes == n / 2 ? 0 : 1);
        return 1;
    }

    public int quiet(int k, int p) {
        if (k < 0 || k > MOST_PEOPLE || p < 0 || p > 10) {
            return NONE;
        }
        if (town.sum(town.dead) > Games.MOST_QUIET_HOURS) {
            return -2;
        }
        games.quietChance(town, k, p, row);
        return 0;
    }

    // ---- rests, rules, years

    public int rests(int v, int c) {
        if (v < 0 || v > 20 || c < 0 || c > 5) {
            return NONE;
        }
        return games.restingPairs(v, c, row);
    }

    public int law() {
        int wrong = spare.read(text);
        text.clear();
        if (wrong != RIGHT) {
            return WRONG_LAW - wrong;
        }
        trial.copy(town);
        clock.run(trial, spare, HALF_A_DAY);
        int byIt = trial.sum(trial.honour);
        lookAhead(HALF_A_DAY);
        int byRule = trial.sum(trial.honour);
        row.tell(byIt, byRule);
        return byIt - byRule;
    }

    public int years(int seed, int n) {
        if (n < 1 || n > MOST_YEARS) {
            return NONE;
        }
        trial.copy(town);
        draws.start(seed);
        for (int i = 0; i < n; i++) {
            drawEvent(draws.of(4));
        }
        row.tell(trial.deadCount(), trial.sum(trial.times));
        return trial.sum(trial.honour);
    }

    private void drawEvent(int event) {
        if (event < 2) {
            clock.run(trial, rule, 1);
        } else if (trial.people > 0) {
            int person = draws.of(trial.people);
            if (event == 2) {
                trial.letDie(person, draws.of(9) + 1);
            } else {
                trial.letCough(person);
            }
        }
    }

    // ---- kept

    public boolean keep(int i) {
        if (i == 0) {
            firstKept.copy(town);
            firstIsKept = true;
        } else if (i == 1) {
            secondKept.copy(town);
            secondIsKept = true;
        }
        return i == 0 || i == 1;
    }

    public boolean again(int i) {
        if (i == 0) {
            return firstIsKept && bringBack(firstKept);
        }
        return i == 1 && secondIsKept && bringBack(secondKept);
    }

    private boolean bringBack(Town kept) {
        // PEOPLE never go, so another number of them means that some came since.
        if (kept.people != town.people) {
            return false;
        }
        town.copy(kept);
        past.forgetAll();
        return true;
    }

    public int count(int what) {
        switch (what) {
            case 0:
                return town.people;
            case 1:
                return town.hour;
            case 2:
                return ((1 << town.people) - 1) & ~town.livingSet();
            case 3:
                return town.sum(town.cash);
            case 4:
                return town.sum(town.honour);
            case 5:
                return town.sum(town.times);
            case 6:
                return town.sumOfPairs(town.debt);
            case 7:
                return town.sumOfPairs(town.opinion);
            case 8:
                return hearsay.size();
            case 9:
                return shifts.size();
            case 10:
                return past.size();
            case 11:
                return row.size();
            case 12:
                return text.length();
            case 13:
                return allWords();
            default:
                return NONE;
        }
    }

    private int allWords() {
        int sum = 0;
        for (int i = 0; i < town.people; i++) {
            for (int j = 0; j < town.people; j++) {
                sum += i == j ? 0 : rule.words(town, i, j);
            }
        }
        return sum;
    }

    public long row(int i) throws NoSuchElementException {
        if (i < 0 || i >= row.size()) {
            throw new NoSuchElementException();
        }
        return row.at(i);
    }

    // ---- small things that all use

    private static int pair(int one, int other) {
        return one * MOST_PEOPLE + other;
    }

    private static boolean isIn(int person, int set) {
        return ((set >> person) & 1) == 1;
    }

    private static boolean isDigit(int sign) {
        return sign >= '0' && sign <= '9';
    }

    /** A number put to 0 .. most. */
    private static int within(int number, int most) {
        return Math.max(0, Math.min(most, number));
    }

    /** THE TEXT. */
    private static final class Text {
        private static final int MOST_SIGNS = 80;
        private static final int END = -1;

        private final int[] signs = new int[MOST_SIGNS];
        private int length;

        int add(int v) {
            if (length + 4 > MOST_SIGNS) {
                return NONE;
            }
            for (int i = 0; i < 4; i++) {
                signs[length + i] = (v >>> (24 - 8 * i)) & 255;
            }
            length += 4;
            return length;
        }

        boolean cut(int n) {
            if (n < 0 || n > length) {
                return false;
            }
            length = n;
            return true;
        }

        void clear() {
            length = 0;
        }

        int length() {
            return length;
        }

        int at(int i) {
            return i >= 0 && i < length ? signs[i] : END;
        }
    }

    /** The ROW. */
    private static final class Row {
        private final long[] numbers = new long[MOST_PEOPLE];
        private int size;

        void clear() {
            size = 0;
        }

        void add(long number) {
            if (size < numbers.length) {
                numbers[size] = number;
                size++;
            }
        }

        void tell(long only) {
            clear();
            add(only);
        }

        void tell(long first, long second) {
            tell(first);
            add(second);
        }

        void tell(long first, long second, long third) {
            tell(first, second);
            add(third);
        }

        int size() {
            return size;
        }

        long at(int i) {
            return i >= 0 && i < size ? numbers[i] : 0;
        }
    }

    /** THE RULE, read from its text into steps that a stack works off. */
    private static final class Rule {
        private static final String FIRST = "d*o+(1-d)*(o+9)/2";
        private static final int MOST_SIGNS = 40;
        private static final int MOST_NESTED = 4;
        private static final int MOST_DIGITS = 3;
        private static final int END = -1;
        private static final char NEGATE = '~';

        private final int[] signs = new int[MOST_SIGNS];
        private int length;
        private int at;
        /** A number as it is; a thing or an operation as its sign below 0. */
        private final int[] steps = new int[MOST_SIGNS];
        private int size;
        private final int[] stack = new int[MOST_SIGNS];
        private int top;

        Rule() {
            readFirst();
        }

        /** Becomes the rule of a text: RIGHT, or the place of the sign that can't stand there (it is no rule then). */
        int read(Text text) {
            if (text.length() == 0) {
                readFirst();
                return RIGHT;
            }
            length = Math.min(text.length(), MOST_SIGNS);
            for (int i = 0; i < length; i++) {
                signs[i] = text.at(i);
            }
            return readAll() && text.length() == length ? RIGHT : at;
        }

        private void readFirst() {
            length = FIRST.length();
            for (int i = 0; i < length && i < MOST_SIGNS; i++) {
                signs[i] = FIRST.charAt(i);
            }
            readAll();
        }

        private boolean readAll() {
            at = 0;
            size = 0;
            return readExpression(0) && at == length;
        }

        // Each reader leaves the place at the first sign that can't stand there, if it answers false.

        private boolean readExpression(int depth) {
            if (!readSum(depth)) {
                return false;
            }
            int sign = next();
            if (sign != '<' && sign != '>' && sign != '=') {
                return true;
            }
            at++;
            return readSum(depth) && put(-sign);
        }

        private boolean readSum(int depth) {
            boolean right = readProduct(depth);
            for (int i = 0; i < MOST_SIGNS && right && (next() == '+' || next() == '-'); i++) {
                int sign = next();
                at++;
                right = readProduct(depth) && put(-sign);
            }
            return right;
        }

        private boolean readProduct(int depth) {
            boolean right = readSigned(depth);
            for (int i = 0; i < MOST_SIGNS && right && (next() == '*' || next() == '/'); i++) {
                int sign = next();
                at++;
                right = readSigned(depth) && put(-sign);
            }
            return right;
        }

        private boolean readSigned(int depth) {
            boolean negative = false;
            for (int i = 0; i < MOST_SIGNS && next() == '-'; i++) {
                negative = !negative;
                at++;
            }
            return readThing(depth) && (!negative || put(-NEGATE));
        }

        private boolean readThing(int depth) {
            int sign = next();
            if (isDigit(sign)) {
                return readNumber();
            }
            if (isThing(sign)) {
                at++;
                return put(-sign);
            }
            if (sign != '(' || depth >= MOST_NESTED) {
                return false;
            }
            at++;
            if (!readExpression(depth + 1) || next() != ')') {
                return false;
            }
            at++;
            return true;
        }

        private boolean readNumber() {
            int number = 0;
            for (int i = 0; i < MOST_DIGITS && isDigit(next()); i++) {
                number = number * 10 + next() - '0';
                at++;
            }
            return put(number);
        }

        private static boolean isThing(int sign) {
            return sign == 'o' || sign == 'd' || sign == 't' || sign == 'e' || sign == 'f' || sign == 'n';
        }

        private int next() {
            return at >= 0 && at < length && at < MOST_SIGNS ? signs[at] : END;
        }

        private boolean put(int step) {
            if (size >= MOST_SIGNS) {
                return false;
            }
            steps[size] = step;
            size++;
            return true;
        }

        /** WORDS of one of another one in a town. */
        int words(Town town, int one, int other) {
            top = 0;
            for (int i = 0; i < size; i++) {
                int step = steps[i];
                if (step >= 0) {
                    push(step);
                } else if (isThing(-step)) {
                    push(thing(-step, town, one, other));
                } else if (step == -NEGATE) {
                    push(-pop());
                } else {
                    int right = pop();
                    push(join(-step, pop(), right));
                }
            }
            return within(pop(), MOST_WORDS);
        }

        private static int thing(int sign, Town town, int one, int other) {
            switch (sign) {
                case 'o':
                    return town.opinion[pair(one, other)];
                case 'd':
                    return town.lives(other) ? 0 : 1;
                case 't':
                    return town.times[other];
                case 'e':
                    return town.debt[pair(one, other)];
                case 'f':
                    return town.debt[pair(other, one)];
                default:
                    return town.hour % 12;
            }
        }

        private static int join(int operation, int left, int right) {
            switch (operation) {
                case '+':
                    return left + right;
                case '-':
                    return left - right;
                case '*':
                    return left * right;
                case '/':
                    return right == 0 ? 0 : left / right;
                case '<':
                    return left < right ? 1 : 0;
                case '>':
                    return left > right ? 1 : 0;
                default:
                    return left == right ? 1 : 0;
            }
        }

        private void push(int number) {
            if (top < MOST_SIGNS) {
                stack[top] = number;
                top++;
            }
        }

        private int pop() {
            if (top <= 0) {
                return 0;
            }
            top--;
            return stack[top];
        }
    }

    /** PEOPLE, DEBTS and the HOUR. */
    private static final class Town {
        private final int[] opinion = new int[PAIRS];
        private final int[] debt = new int[PAIRS];
        private final int[] cash = new int[MOST_PEOPLE];
        private final int[] honour = new int[MOST_PEOPLE];
        private final int[] times = new int[MOST_PEOPLE];
        private final int[] dead = new int[MOST_PEOPLE];
        private final int[] heard = new int[MOST_PEOPLE];
        private int hour;
        private int people;

        void copy(Town from) {
            System.arraycopy(from.opinion, 0, opinion, 0, PAIRS);
            System.arraycopy(from.debt, 0, debt, 0, PAIRS);
            System.arraycopy(from.cash, 0, cash, 0, MOST_PEOPLE);
            System.arraycopy(from.honour, 0, honour, 0, MOST_PEOPLE);
            System.arraycopy(from.times, 0, times, 0, MOST_PEOPLE);
            System.arraycopy(from.dead, 0, dead, 0, MOST_PEOPLE);
            System.arraycopy(from.heard, 0, heard, 0, MOST_PEOPLE);
            hour = from.hour;
            people = from.people;
        }

        boolean has(int person) {
            return person >= 0 && person < people;
        }

        boolean hasTwo(int one, int other) {
            return has(one) && has(other) && one != other;
        }

        boolean lives(int person) {
            return dead[person] == 0;
        }

        int livingSet() {
            int set = 0;
            for (int i = 0; i < people; i++) {
                if (lives(i)) {
                    set |= 1 << i;
                }
            }
            return set;
        }

        int deadCount() {
            return people - Integer.bitCount(livingSet());
        }

        int sum(int[] ofPeople) {
            int sum = 0;
            for (int i = 0; i < people && i < ofPeople.length; i++) {
                sum += ofPeople[i];
            }
            return sum;
        }

        int sumOfPairs(int[] ofPairs) {
            int sum = 0;
            for (int i = 0; i < people; i++) {
                for (int j = 0; j < people; j++) {
                    int at = pair(i, j);
                    sum += i == j || at >= ofPairs.length ? 0 : ofPairs[at];
                }
            }
            return sum;
        }

        int owedBy(int person) {
            int sum = 0;
            for (int i = 0; i < people; i++) {
                sum += debt[pair(person, i)];
            }
            return sum;
        }

        int owedTo(int person) {
            int sum = 0;
            for (int i = 0; i < people; i++) {
                sum += debt[pair(i, person)];
            }
            return sum;
        }

        int balance(int person) {
            return owedTo(person) - owedBy(person);
        }

        int worth(int person) {
            return cash[person] + balance(person);
        }

        /** How many of a set have this CASH or more. */
        int richIn(int set, int atLeast) {
            int rich = 0;
            for (int i = 0; i < people; i++) {
                if (isIn(i, set) && cash[i] >= atLeast) {
                    rich++;
                }
            }
            return rich;
        }

        int letDie(int person, int n) {
            if (!has(person) || !isDeath(n)) {
                return NONE;
            }
            if (!lives(person)) {
                return -2;
            }
            dead[person] = n;
            times[person] = Math.min(MOST_TIMES, times[person] + 1);
            heard[person] = 0;
            return deadCount();
        }

        int letCough(int person) {
            if (!has(person)) {
                return NONE;
            }
            if (lives(person)) {
                return -2;
            }
            dead[person] = 0;
            honour[person] /= 2;
            return honour[person];
        }

        int lend(int one, int other, int n) {
            return hand(one, other, n, true);
        }

        int pay(int one, int other, int n) {
            return hand(one, other, n, false);
        }

        /** CASH goes from one to another: by a loan that one's DEBT grows, else the first one's DEBT is less. */
        private int hand(int one, int other, int n, boolean loan) {
            if (!hasTwo(one, other) || n < 1 || n > MOST_CASH) {
                return NONE;
            }
            if (!lives(one) || !lives(other)) {
                return -4;
            }
            if (cash[one] < n) {
                return -2;
            }
            int at = loan ? pair(other, one) : pair(one, other);
            int left = loan ? debt[at] + n : debt[at] - n;
            if (left < 0 || left > MOST_DEBT || cash[other] + n > MOST_CASH) {
                return -3;
            }
            cash[one] -= n;
            cash[other] += n;
            debt[at] = left;
            return left;
        }
    }

    /** Lets HOURS pass in a town. */
    private static final class Clock {
        /** WORDS as they are ahead of the hour, since the hour itself changes OPINIONS and DEBTS. */
        private final int[] words = new int[PAIRS];

        /** How often one came to live in n hours. */
        int run(Town town, Rule rule, int n) {
            int woken = 0;
            for (int i = 0; i < n; i++) {
                woken += pass(town, rule);
            }
            return woken;
        }

        private int pass(Town town, Rule rule) {
            gatherWords(town, rule);
            hear(town);
            growDebts(town);
            int woken = wake(town);
            town.hour++;
            return woken;
        }

        private void gatherWords(Town town, Rule rule) {
            for (int i = 0; i < town.people; i++) {
                if (town.lives(i)) {
                    continue;
                }
                boolean wakes = town.dead[i] == 1;
                for (int j = 0; j < town.people; j++) {
                    // One who looks round may have heard others who are dead themselves by now.
                    if (i != j && (wakes || town.lives(j))) {
                        words[pair(j, i)] = rule.words(town, j, i);
                    }
                }
            }
        }

        private void hear(Town town) {
            int living = town.livingSet();
            for (int i = 0; i < town.people; i++) {
                if (!town.lives(i)) {
                    town.honour[i] = Math.min(MOST_HONOUR, town.honour[i] + wordsOf(i, living, town.people));
                    town.heard[i] |= living;
                }
            }
        }

        /** WORDS that a set says of one, together. */
        private int wordsOf(int person, int set, int people) {
            int sum = 0;
            for (int i = 0; i < people && i < MOST_PEOPLE; i++) {
                if (isIn(i, set)) {
                    sum += words[pair(i, person)];
                }
            }
            return sum;
        }

        private void growDebts(Town town) {
            for (int i = 0; i < town.people; i++) {
                for (int j = 0; j < town.people; j++) {
                    int at = pair(i, j);
                    boolean grows = town.debt[at] > 0 && town.debt[at] < MOST_DEBT;
                    if (grows && town.lives(i) && town.lives(j)) {
                        town.debt[at]++;
                    }
                }
            }
        }

        private int wake(Town town) {
            int woken = 0;
            for (int i = 0; i < town.people; i++) {
                if (!town.lives(i)) {
                    town.dead[i]--;
                    if (town.lives(i)) {
                        woken++;
                        lookRound(town, i);
                    }
                }
            }
            return woken;
        }

        private void lookRound(Town town, int person) {
            for (int i = 0; i < town.people; i++) {
                if (isIn(i, town.heard[person])) {
                    int at = pair(person, i);
                    town.opinion[at] += Integer.compare(words[pair(i, person)], town.opinion[at]);
                }
            }
        }
    }

    /** What can be undone: towns as they were. */
    private static final class Past {
        private static final int MOST = 12;
        /** One more than are kept, so that a town can be noted before it is clear that it is kept. */
        private static final int PLACES = MOST + 1;

        private final Town[] towns = new Town[PLACES];
        /** Where the next town comes. */
        private int next;
        private int size;

        Past() {
            for (int i = 0; i < PLACES; i++) {
                towns[i] = new Town();
            }
        }

        int size() {
            return size;
        }

        void forgetAll() {
            size = 0;
        }

        void note(Town town) {
            Town place = towns[next];
            if (place != null) {
                place.copy(town);
            }
        }

        void keepNoted() {
            next = (next + 1) % PLACES;
            size = Math.min(MOST, size + 1);
        }

        boolean back(Town town) {
            if (size == 0) {
                return false;
            }
            next = (next + PLACES - 1) % PLACES;
            size--;
            Town place = towns[next];
            if (place != null) {
                town.copy(place);
            }
            return true;
        }
    }

    /** What was heard of one who spoke. */
    private static final class Hearsay {
        private static final int MOST = 12;

        private final int[] whats = new int[MOST];
        private final int[] values = new int[MOST];
        private int size;

        int size() {
            return size;
        }

        int add(int what, int v) {
            if (size >= MOST || v < 0 || v > mostOf(what)) {
                return NONE;
            }
            whats[size] = what;
            values[size] = v;
            size++;
            return size;
        }

        /** The most that can be heard of this; below 0 if nothing can. */
        private static int mostOf(int what) {
            switch (what) {
                case 0:
                    return MOST_CASH;
                case 1:
                case 3:
                    return 1;
                case 2:
                    return MOST_WORDS;
                case 4:
                    return MOST_TIMES;
                default:
                    return -1;
            }
        }

        int clear() {
            int before = size;
            size = 0;
            return before;
        }

        int fitting(Town town, Rule rule) {
            int set = 0;
            for (int person = 0; person < town.people; person++) {
                boolean fits = true;
                for (int i = 0; i < size && fits; i++) {
                    fits = isSo(town, rule, person, whats[i], values[i]);
                }
                if (fits) {
                    set |= 1 << person;
                }
            }
            return set;
        }

        private static boolean isSo(Town town, Rule rule, int person, int what, int v) {
            switch (what) {
                case 0:
                    return town.cash[person] >= v;
                case 1:
                    return town.lives(person) == (v == 0);
                case 2:
                    return person != 0 && rule.words(town, person, 0) == v;
                case 3:
                    return town.owedBy(person) > 0 == (v == 1);
                default:
                    return town.times[person] <= v;
            }
        }
    }

    /** What was listened to, and the shifts (a of the living, b of the dead) by which it could be said. */
    private static final class Shifts {
        private static final int MOST = 12;
        private static final int FAR = 9;
        private static final int MOST_OPINION = 9;

        private final int[] opinions = new int[MOST];
        private final int[] deads = new int[MOST];
        private final int[] words = new int[MOST];
        private int size;
        private final int[] tally = new int[MOST_WORDS + 1];

        int size() {
            return size;
        }

        int add(int o, int dead, int w) {
            boolean right = o >= 0 && o <= MOST_OPINION && (dead == 0 || dead == 1) && w >= 0 && w <= MOST_WORDS;
            if (!right || size >= MOST) {
                return NONE;
            }
            opinions[size] = o;
            deads[size] = dead;
            words[size] = w;
            size++;
            return size;
        }

        int clear() {
            int before = size;
            size = 0;
            return before;
        }

        private boolean isPossible(int dead, int shift) {
            for (int i = 0; i < size; i++) {
                if (deads[i] == dead && within(opinions[i] + shift, MOST_WORDS) != words[i]) {
                    return false;
                }
            }
            return true;
        }

        int fitting(int dead) {
            int count = 0;
            for (int shift = -FAR; shift <= FAR; shift++) {
                if (isPossible(dead, shift)) {
                    count++;
                }
            }
            return count;
        }

        /** The least shift that fits, where one does. */
        int least(int dead) {
            int least = -FAR;
            while (least < FAR && !isPossible(dead, least)) {
                least++;
            }
            return least;
        }

        /** How many shifts are left at most, whatever is said by one of this OPINION. */
        int leftAtMost(int dead, int o) {
            for (int w = 0; w <= MOST_WORDS; w++) {
                tally[w] = 0;
            }
            int most = 0;
            for (int shift = -FAR; shift <= FAR; shift++) {
                if (isPossible(dead, shift)) {
                    int w = within(o + shift, MOST_WORDS);
                    tally[w]++;
                    most = Math.max(most, tally[w]);
                }
            }
            return most;
        }
    }

    /** The game at the bank, coughs by chance, and eulogies at rest. */
    private static final class Games {
        private static final int MOST_COINS = 99;
        private static final int MOST_QUIET_HOURS = 16;
        private static final int MOST_WARMTH = 9;
        private static final int MOST_DIVISIONS = 200;

        /** By coins and by who may still take k (2: who is to take, 1: the other one), if who is to take wins. */
        private final boolean[] wins = new boolean[(MOST_COINS + 1) * 4];
        /** By how many do not cough, how likely, over a common lower number. */
        private final long[] ways = new long[MOST_PEOPLE + 1];
        /** By the other one's warmth, the most that one can have. */
        private final int[] best = new int[MOST_WARMTH + 1];

        /** The least number that wins with n coins, both having their once; 0 if none does. */
        int winningTake(int n, int k) {
            if (n < 1 || n > MOST_COINS || k < 2) {
                return 0;
            }
            // With no coins left, the other one took the last one.
            for (int once = 0; once < 4; once++) {
                wins[once] = true;
            }
            for (int coins = 1; coins <= n; coins++) {
                for (int once = 0; once < 4; once++) {
                    wins[coins * 4 + once] = leastTake(coins, once, k) > 0;
                }
            }
            return leastTake(n, 3, k);
        }

        private int leastTake(int coins, int once, int k) {
            int swapped = once % 2 * 2 + once / 2;
            if (loses(coins - 1, swapped)) {
                return 1;
            }
            int half = coins / 2;
            boolean byHalf = half > 0 && loses(coins - half, swapped);
            boolean byOnce = once >= 2 && coins >= k && loses(coins - k, once % 2 * 2);
            if (byHalf && byOnce) {
                return Math.min(half, k);
            }
            if (byHalf) {
                return half;
            }
            return byOnce ? k : 0;
        }

        private boolean loses(int coins, int once) {
            int at = coins * 4 + once;
            return at >= 0 && at < wins.length && !wins[at];
        }

        void quietChance(Town town, int k, int p, Row row) {
            for (int i = 0; i <= MOST_PEOPLE; i++) {
                ways[i] = i == 0 ? 1 : 0;
            }
            long lower = 1;
            for (int i = 0; i < town.people; i++) {
                if (!town.lives(i)) {
                    addQuiet(power(10 - p, town.dead[i]), power(10, town.dead[i]));
                    lower *= power(10, town.dead[i]);
                }
            }
            long upper = 0;
            for (int i = Math.max(k, 0); i <= MOST_PEOPLE; i++) {
                upper += ways[i];
            }
            long common = commonDivisor(upper, lower);
            row.tell(upper / common, lower / common);
        }

        /** One more, who does not cough by quiet of all. */
        private void addQuiet(long quiet, long all) {
            for (int i = MOST_PEOPLE; i >= 0; i--) {
                long fewer = i > 0 ? ways[i - 1] : 0;
                ways[i] = ways[i] * (all - quiet) + fewer * quiet;
            }
        }

        private static long power(long base, int exponent) {
            long power = 1;
            for (int i = 0; i < exponent; i++) {
                power *= base;
            }
            return power;
        }

        /** At least 1, so that it can divide. */
        private static long commonDivisor(long one, long other) {
            long a = one;
            long b = other;
            for (int i = 0; i < MOST_DIVISIONS && b != 0; i++) {
                long rest = a % b;
                a = b;
                b = rest;
            }
            return Math.max(1, a);
        }

        int restingPairs(int v, int c, Row row) {
            for (int y = 0; y <= MOST_WARMTH; y++) {
                best[y] = gain(0, y, v, c);
                for (int x = 1; x <= MOST_WARMTH; x++) {
                    best[y] = Math.max(best[y], gain(x, y, v, c));
                }
            }
            int count = 0;
            row.clear();
            for (int x = 0; x <= MOST_WARMTH; x++) {
                for (int y = 0; y <= MOST_WARMTH; y++) {
                    if (gain(x, y, v, c) == best[y] && gain(y, x, v, c) == best[x]) {
                        count++;
                        if (count == 1) {
                            row.tell(x, y);
                        }
                    }
                }
            }
            return count;
        }

        private static int gain(int own, int others, int v, int c) {
            int free = own - others >= 2 ? 1 : 0;
            int cost = (own - free) * c;
            if (own == others) {
                return v / 2 - cost;
            }
            return own > others ? v - cost : -cost;
        }
    }

    /** PEOPLE parted into groups that are even, and streets named for them. */
    private static final class Partings {
        private static final int MOST_STREETS = 6;

        /** By set, what is owed to it less what it owes. */
        private final int[] balance = new int[SETS];
        /** By set, the most even groups into which it can be parted; 0 if it can't be. */
        private final int[] groups = new int[SETS];
        private final int[] digits = new int[MOST_STREETS];
        private int streets;
        /** By street and the set of those who have one already, how many from that street on can be named. */
        private final int[] names = new int[(MOST_STREETS + 1) * SETS];

        int mostGroups(Town town) {
            int all = allOf(town);
            addUpBalances(town);
            groups[0] = 0;
            for (int set = 1; set <= all; set++) {
                groups[set] = balance[set] == 0 ? groupsOf(set) : 0;
            }
            return groups[all];
        }

        private void addUpBalances(Town town) {
            balance[0] = 0;
            for (int i = 0; i < town.people; i++) {
                int own = town.balance(i);
                int bit = 1 << i;
                for (int set = 0; set < bit; set++) {
                    balance[bit + set] = balance[set] + own;
                }
            }
        }

        private static int allOf(Town town) {
            return Math.min(SETS, 1 << town.people) - 1;
        }

        /** Of an even set: its group with the first one may be any even part, and the rest is even then, too. */
        private int groupsOf(int set) {
            int most = 0;
            int first = set & -set;
            for (int part = first; part <= set; part++) {
                boolean isGroup = (part & ~set) == 0 && (part & first) != 0 && balance[part] == 0;
                if (isGroup) {
                    most = Math.max(most, 1 + groups[set & ~part]);
                }
            }
            return most;
        }

        /** The least group of the first one, by what mostGroups() found. */
        int groupOfFirst(Town town) {
            int all = allOf(town);
            for (int part = 1; part < all; part += 2) {
                if (balance[part] == 0 && 1 + groups[all & ~part] == groups[all]) {
                    return part;
                }
            }
            return all;
        }

        int readStreets(Text text) {
            int length = text.length();
            streets = Math.min(length, MOST_STREETS);
            for (int i = 0; i < streets; i++) {
                if (!isDigit(text.at(i))) {
                    return i;
                }
                digits[i] = text.at(i) - '0';
            }
            return length == 0 || length > MOST_STREETS ? streets : RIGHT;
        }

        int nameStreets(Town town, Row row) {
            for (int set = 0; set < SETS; set++) {
                names[streets * SETS + set] = 0;
            }
            for (int street = streets - 1; street >= 0; street--) {
                for (int set = 0; set < SETS; set++) {
                    names[street * SETS + set] = mostNames(town, street, set);
                }
            }
            row.clear();
            int named = 0;
            for (int street = 0; street < streets; street++) {
                int person = leastName(town, street, named);
                row.add(person);
                named |= person == NONE ? 0 : 1 << person;
            }
            return names[0];
        }

        private int mostNames(Town town, int street, int named) {
            int most = namesFrom(street + 1, named);
            for (int i = 0; i < town.people; i++) {
                if (mayBear(town, i, street, named)) {
                    most = Math.max(most, 1 + namesFrom(street + 1, named | 1 << i));
                }
            }
            return most;
        }

        /** Nobody, if as many can be named without this street; else the first one by whom they can. */
        private int leastName(Town town, int street, int named) {
            int most = namesFrom(street, named);
            if (namesFrom(street + 1, named) == most) {
                return NONE;
            }
            for (int i = 0; i < town.people; i++) {
                if (mayBear(town, i, street, named) && 1 + namesFrom(street + 1, named | 1 << i) == most) {
                    return i;
                }
            }
            return NONE;
        }

        private boolean mayBear(Town town, int person, int street, int named) {
            return !isIn(person, named) && town.honour[person] >= 10 * digits[street];
        }

        private int namesFrom(int street, int named) {
            int at = street * SETS + named;
            return at >= 0 && at < names.length ? names[at] : 0;
        }
    }

    /** DRAWS by a seed. */
    private static final class Draws {
        private int state;

        void start(int seed) {
            state = seed;
        }

        int of(int n) {
            state = state * 1103515245 + 12345;
            return n <= 0 ? 0 : (state >>> 16) % n;
        }
    }
}
