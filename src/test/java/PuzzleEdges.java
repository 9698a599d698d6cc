/** Boundary cases of promises 30 to 40. */
final class PuzzleEdges {
    private static final int[] FAR = {Integer.MAX_VALUE, Integer.MIN_VALUE};
    private static final String SIX = "0000009;0000009;0000009;0000009;0000009;0000009";

    private PuzzleEdges() {
    }

    static void all() {
        heard();
        heardRefused();
        forget();
        fits();
        asks();
        listens();
        doubts();
        laws();
        tries();
        bank();
        bankOnce();
        bankRefused();
        quiet();
        quietRefused();
        rests();
        restsRefused();
    }

    private static void heard() {
        Sentence.of(30, "what 0: CASH is v (0 .. 99) or more; 1: it is DEAD (1) or lives (0); 2: WORDS of PEOPLE 0 now are v "
                + "(0 .. 9); 3: it owes somebody (1) or nobody (0); 4: TIMES is v (0 .. 99) or less: how many such");
        int[] most = {99, 1, 9, 1, 99};
        for (int what = 0; what < 5; what++) {
            DeadTillSix x = new DeadTillSix();
            for (int v = 0; v <= most[what]; v++) {
                Check.due("heard(" + what + ", " + v + ")", x.heard(what, v), 1);
                x.forget();
            }
            int asked = what;
            for (int v : new int[] {-1, most[what] + 1, FAR[0], FAR[1]}) {
                Check.dueAndNothing("heard(" + what + ", " + v + ")", y -> y.heard(asked, v), -1);
            }
        }
    }

    private static void heardRefused() {
        Sentence.of(30, "Refused: others, 12.");
        for (int what : new int[] {-1, 5, FAR[0], FAR[1]}) {
            for (int v : new int[] {-1, 0, 1}) {
                Check.dueAndNothing("heard(" + what + ", " + v + ")", y -> y.heard(what, v), -1);
            }
        }
        DeadTillSix x = Check.town(SIX);
        for (int i = 1; i <= 12; i++) {
            Check.due("the same once more", x.heard(0, 9), i);
        }
        Check.due("a thirteenth", x.heard(0, 99), -1);
        Check.due("twelve are kept", x.count(8), 12);
        Check.due("the thirteenth does not count", x.fits(), 63);
    }

    private static void forget() {
        Sentence.of(31, "It is forgotten: how many there were.");
        DeadTillSix x = Check.town(SIX);
        Check.due("none", x.forget(), 0);
        for (int i = 0; i < 12; i++) {
            x.heard(0, 99);
        }
        Check.due("twelve", x.forget(), 12);
        Check.due("none any more", x.forget() + " " + x.count(8), "0 0");
        Check.due("all fit again", x.fits(), 63);
        Check.due("there is room again", x.heard(0, 1), 1);
    }

    /** Who fits one thing that was heard. */
    private static int fitting(DeadTillSix x, int what, int v) {
        x.forget();
        x.heard(what, v);
        return x.fits();
    }

    private static void fits() {
        Sentence.of(32, "PEOPLE (bits) who fit all that was heard now (what 2: of PEOPLE 0 itself never so); "
                + "the ROW: how many");
        DeadTillSix nobody = new DeadTillSix();
        Check.due("without people", Check.asked(nobody, nobody.fits()), "0: 0");
        for (int people = 1; people <= 6; people++) {
            DeadTillSix x = Check.town(SIX.substring(0, 8 * people - 1));
            Check.due("nothing was heard", Check.asked(x, x.fits()), (1 << people) - 1 + ": " + people);
        }
        DeadTillSix y = Check.town("3000000;3000000;4000000");
        y.sheet(2, 3, 0, 50);
        Check.rule(y, "o");
        Check.due("cash of 0 or more", fitting(y, 0, 0), 7);
        Check.due("of 1", fitting(y, 0, 1), 6);
        Check.due("of 50", fitting(y, 0, 50), 6);
        Check.due("of 51", fitting(y, 0, 51), 4);
        Check.due("of 99", fitting(y, 0, 99), 4);
        Check.due("words of 3, but not by 0 itself", fitting(y, 2, 3), 2);
        Check.due("words of 0, but not by 0 itself", fitting(y, 2, 0), 0);
        Check.due("words of 9", fitting(y, 2, 9), 0);
        Check.due("nobody is dead", fitting(y, 1, 1), 0);
        Check.due("all live", fitting(y, 1, 0), 7);
        Check.due("nobody owes", fitting(y, 3, 1) + " " + fitting(y, 3, 0), "0 7");
        Check.due("times of 0 or less", fitting(y, 4, 0), 7);
        y.lends(1, 2, 0);
        y.lends(1, 0, 1);
        Check.afternoon(y, "d19c1d11");
        Check.due("0 owes", fitting(y, 3, 1) + " " + fitting(y, 3, 0), "1 6");
        Check.due("1 is dead", fitting(y, 1, 1) + " " + fitting(y, 1, 0), "2 5");
        Check.due("it was twice", fitting(y, 4, 1) + " " + fitting(y, 4, 2) + " " + fitting(y, 4, 99), "5 7 7");
        Check.due("one who is dead says words, too", fitting(y, 2, 3), 2);
        y.heard(1, 0);
        Check.due("all that was heard", Check.asked(y, y.fits()), "0: 0");
    }

    private static void asks() {
        Sentence.of(33, "The v (0 .. 99) to ask about, so that, CASH is v or more or not, the fewest such PEOPLE are left at "
                + "most; of equal ones the least");
        DeadTillSix x = Check.town(SIX);
        Check.due("all are equal", Check.asked(x, x.asks()), "0: 6");
        x.sheet(2, 6, 0, 99);
        Check.due("0, and five of 99", Check.asked(x, x.asks()), "1: 5");
        x.sheet(2, 6, 99, -1);
        Check.due("99 .. 94", Check.asked(x, x.asks()), "97: 3");
        x.sheet(2, 6, 0, 1);
        Check.due("0 .. 5", Check.asked(x, x.asks()), "3: 3");
        x.sheet(2, 5, 10, 10);
        Check.due("10 .. 50, and 0", Check.asked(x, x.asks()), "21: 3");
        DeadTillSix two = Check.town("0000000;0000000");
        two.sheet(2, 2, 98, 1);
        Check.due("98 and 99", Check.asked(two, two.asks()), "99: 1");
        two.heard(0, 99);
        Check.due("one is left", Check.asked(two, two.asks()), "0: 1");
        Sentence.of(33, "-2: none fits");
        two.heard(1, 1);
        Check.due("none", Check.asked(two, two.asks()), "-2: 1");
        Check.due("nobody is there", new DeadTillSix().asks(), -2);
    }

    private static void listens() {
        Sentence.of(34, "OPINION o (0 .. 9), of one who is DEAD (dead 1) or lives (0), WORDS w (0 .. 9): how many such");
        DeadTillSix x = new DeadTillSix();
        for (int o = 0; o <= 9; o++) {
            for (int dead = 0; dead <= 1; dead++) {
                Check.due("listens(" + o + ", " + dead + ", " + (9 - o) + ")", x.listens(o, dead, 9 - o), 1);
                x.doubts();
            }
        }
        Sentence.of(34, "Refused: others, 12.");
        for (int wrong : new int[] {-1, 10, FAR[0], FAR[1]}) {
            Check.dueAndNothing("listens(" + wrong + ", 0, 0)", y -> y.listens(wrong, 0, 0), -1);
            Check.dueAndNothing("listens(0, 0, " + wrong + ")", y -> y.listens(0, 0, wrong), -1);
        }
        for (int wrong : new int[] {-1, 2, FAR[0], FAR[1]}) {
            Check.dueAndNothing("listens(0, " + wrong + ", 0)", y -> y.listens(0, wrong, 0), -1);
        }
        for (int i = 1; i <= 12; i++) {
            Check.due("the same once more", x.listens(0, 0, 0), i);
        }
        Check.due("a thirteenth", x.listens(0, 1, 9), -1);
        Check.due("twelve are kept", x.count(9), 12);
        // a is 0 or less, b is any.
        Check.due("the thirteenth does not count", Check.asked(x, x.laws()), "190: -9 -9");
    }

    private static void doubts() {
        Sentence.of(35, "It is not believed: how many there were.");
        DeadTillSix x = new DeadTillSix();
        Check.due("none", x.doubts(), 0);
        for (int i = 0; i < 12; i++) {
            x.listens(9, 0, 0);
        }
        Check.due("twelve", x.doubts(), 12);
        Check.due("none any more", x.doubts() + " " + x.count(9), "0 0");
        Check.due("all laws fit again", x.laws(), 361);
        Check.due("there is room again", x.listens(0, 0, 0), 1);
    }

    private static void laws() {
        Sentence.of(36, "Laws (a, b) that fit all that was listened to: how many; the ROW: the least (a, b; nothing without)");
        DeadTillSix x = new DeadTillSix();
        Check.due("nothing was listened to", Check.asked(x, x.laws()), "361: -9 -9");
        // Put to 0 .. 9: by 9 and words of 0 a is -9 alone; by 0 and words of 0 it is 0 or less.
        int[][] cases = {{9, 0, 1, -9}, {0, 9, 1, 9}, {0, 0, 10, -9}, {9, 9, 10, 0}, {4, 0, 6, -9}, {4, 9, 5, 5}, {4, 1, 1, -3},
            {4, 8, 1, 4}, {0, 1, 1, 1}, {9, 8, 1, -1}};
        for (int[] c : cases) {
            x.doubts();
            x.listens(c[0], 0, c[1]);
            Check.due("of one who lives " + c[0] + " " + c[1], Check.asked(x, x.laws()), 19 * c[2] + ": " + c[3] + " -9");
            x.doubts();
            x.listens(c[0], 1, c[1]);
            Check.due("of one who is dead " + c[0] + " " + c[1], Check.asked(x, x.laws()), 19 * c[2] + ": -9 " + c[3]);
        }
        x.doubts();
        x.listens(9, 0, 0);
        x.listens(0, 1, 9);
        Check.due("one law", Check.asked(x, x.laws()), "1: -9 9");
        x.listens(9, 0, 1);
        Check.due("none", Check.asked(x, x.laws()), "0: ");
        x.doubts();
        x.listens(9, 1, 0);
        x.listens(9, 1, 1);
        Check.due("none for those who are dead", Check.asked(x, x.laws()), "0: ");
    }

    private static void tries() {
        Sentence.of(37, "10 times dead, and OPINION, of equal ones the least: it; the ROW: how many at most");
        DeadTillSix x = new DeadTillSix();
        // Of a -9 .. 9 six put 4 to 0 and five put it to 9; of 5 it is the other way round: as good.
        Check.due("at first", Check.asked(x, x.tries()), "4: 114");
        x.listens(5, 0, 5);
        Check.due("a is known", Check.asked(x, x.tries()), "14: 6");
        x.listens(9, 1, 0);
        Check.due("both are known", Check.asked(x, x.tries()), "0: 1");
        x.doubts();
        x.listens(5, 1, 5);
        Check.due("b is known", Check.asked(x, x.tries()), "4: 6");
        x.listens(0, 0, 0);
        // a is -9 .. 0: by 9 each of these says another thing.
        Check.due("the last of one who lives", Check.asked(x, x.tries()), "9: 1");
        x.doubts();
        x.listens(5, 0, 5);
        x.listens(0, 1, 0);
        Check.due("the last of all", Check.asked(x, x.tries()), "19: 1");
        x.doubts();
        x.listens(5, 0, 5);
        x.listens(9, 1, 9);
        // b is 0 .. 9: by 0 each of these says another thing.
        Check.due("the first of one who is dead", Check.asked(x, x.tries()), "10: 1");
        x.doubts();
        x.listens(5, 1, 5);
        x.listens(9, 0, 9);
        Check.due("the first of all", Check.asked(x, x.tries()), "0: 1");
        Sentence.of(37, "-2: none fits");
        x.listens(0, 1, 1);
        Check.due("none", Check.asked(x, x.tries()), "-2: 1");
        x.doubts();
        x.listens(5, 0, 5);
        x.listens(5, 0, 6);
        Check.due("none of those who live", Check.asked(x, x.tries()), "-2: 1");
    }

    private static void bank() {
        Sentence.of(38, "half of what there is (cut; not 0)");
        DeadTillSix x = new DeadTillSix();
        for (int k = 2; k <= 9; k++) {
            Check.due("one coin is the last one, k " + k, Check.asked(x, x.bank(1, k)), "0: ");
            Check.due("two coins, k " + k, Check.asked(x, x.bank(2, k)), "1: 1 0");
        }
        // Five and k of 9: half (2) leaves three, of which one leaves two; one leaves four, by which the other one wins.
        Check.due("half of five", Check.asked(x, x.bank(5, 9)), "1: 2 0");
        Sentence.of(38, "k (2 .. 9) if there are so many; who takes the last one has lost");
        Check.due("3 of two are too many", Check.asked(x, x.bank(2, 3)), "1: 1 0");
        Check.due("2 of three leave one", Check.asked(x, x.bank(3, 2)), "1: 2 1");
        Check.due("3 of three are the last one", Check.asked(x, x.bank(3, 3)), "0: ");
        Check.due("9 of ten leave one", Check.asked(x, x.bank(10, 9)).startsWith("1: "), true);
        Sentence.of(38, "the least number that he takes so that he wins (nothing, if he loses), 1 if it is neither one nor half "
                + "(and so by that once), else 0");
        // Four: 1 leaves three, by which who has 3 alone at once loses; 3 at once leave one, but 1 is less.
        Check.due("one goes ahead of more", Check.asked(x, x.bank(4, 3)), "1: 1 0");
        Check.due("he loses", Check.asked(x, x.bank(4, 2)), "0: ");
        for (int n = 1; n <= 99; n++) {
            DeadTillSix y = new DeadTillSix();
            for (int k = 2; k <= 9; k++) {
                boolean wins = y.bank(n, k) == 1;
                Check.due("row of bank(" + n + ", " + k + ")", y.count(11), wins ? 2 : 0);
                if (wins) {
                    long takes = y.row(0);
                    Check.due("it is one, half or k", takes == 1 || takes == n / 2 || takes == k && k <= n, true);
                    Check.due("whether it is by that once", y.row(1), takes == 1 || takes == n / 2 ? 0 : 1);
                }
            }
        }
    }

    /** The least number by which the one whose turn it is wins; 0 if he loses. */
    private static int winning(int coins, int k, boolean own, boolean others) {
        int[] takes = {1, coins / 2, k};
        int least = 0;
        for (int i = 0; i < 3; i++) {
            boolean can = takes[i] > 0 && takes[i] <= coins && (i < 2 || own);
            int left = coins - takes[i];
            // Who has taken the last one has lost, so the other one needs not take any more.
            if (can && left > 0 && winning(left, k, others, own && i < 2) == 0 && (least == 0 || takes[i] < least)) {
                least = takes[i];
            }
        }
        return least;
    }

    private static void bankOnce() {
        Sentence.of(38, "or, once in the game, each, k (2 .. 9) if there are so many");
        for (int n = 1; n <= 25; n++) {
            DeadTillSix x = new DeadTillSix();
            for (int k = 2; k <= 9; k++) {
                int takes = winning(n, k, true, true);
                int once = takes == 1 || takes == n / 2 ? 0 : 1;
                String due = takes == 0 ? "0: " : "1: " + takes + " " + once;
                Check.due("bank(" + n + ", " + k + ")", Check.asked(x, x.bank(n, k)), due);
            }
        }
    }

    private static void bankRefused() {
        Sentence.of(38, "n (0 .. 99) coins lie in a bank");
        DeadTillSix most = new DeadTillSix();
        Model model = new Model();
        for (int k = 2; k <= 9; k++) {
            String due = model.bank(99, k) + ": " + model.told;
            Check.due("99, k " + k, Check.asked(most, most.bank(99, k)), due.replaceAll("[\\[\\],]", ""));
        }
        Sentence.of(38, "-2: there are none");
        for (int k = 2; k <= 9; k++) {
            int asked = k;
            Check.dueAndNothing("bank(0, " + k + ")", x -> x.bank(0, asked), -2);
        }
        Sentence.of(38, "NONE: others.");
        for (int n : new int[] {-1, 100, FAR[0], FAR[1]}) {
            Check.dueAndNothing("bank(" + n + ", 2)", x -> x.bank(n, 2), -1);
        }
        for (int k : new int[] {1, 0, -1, 10, FAR[0], FAR[1]}) {
            Check.dueAndNothing("bank(5, " + k + ")", x -> x.bank(5, k), -1);
            Check.dueAndNothing("bank(0, " + k + ")", x -> x.bank(0, k), -1);
        }
    }

    private static void quiet() {
        Sentence.of(39, "coughs in each hour that is left to it by p tenths (0 .. 10), as long as it has not");
        for (int p = 0; p <= 10; p++) {
            DeadTillSix x = Check.town("0000000;0000000");
            x.dies(0, 1);
            int lower = p == 0 || p == 10 ? 1 : p == 5 ? 2 : p % 2 == 0 ? 5 : 10;
            Check.due("one hour by " + p, Check.asked(x, x.quiet(1, p)), "0: " + (10 - p) * lower / 10 + " " + lower);
            x.undo();
            x.dies(0, 2);
            Check.due("two hours by " + p, Check.asked(x, x.quiet(1, p)),
                    "0: " + (10 - p) * (10 - p) * lower * lower / 100 + " " + lower * lower);
        }
        Sentence.of(39, "how likely k (0 .. 6) or more do not cough at all");
        DeadTillSix six = Check.town(SIX);
        for (int i = 0; i < 6; i++) {
            six.dies(i, 1);
        }
        String[] due = {"1 1", "63 64", "57 64", "21 32", "11 32", "7 64", "1 64"};
        for (int k = 0; k <= 6; k++) {
            Check.due(k + " of six", Check.asked(six, six.quiet(k, 5)), "0: " + due[k]);
            Check.due(k + " of six, by none", Check.asked(six, six.quiet(k, 0)), "0: 1 1");
            Check.due(k + " of six, by 10", Check.asked(six, six.quiet(k, 10)), k == 0 ? "0: 1 1" : "0: 0 1");
        }
        DeadTillSix one = Check.town(SIX);
        one.dies(0, 1);
        Check.due("more than are dead", Check.asked(one, one.quiet(2, 0)), "0: 0 1");
        DeadTillSix nobody = new DeadTillSix();
        Check.due("nobody: none or more", Check.asked(nobody, nobody.quiet(0, 10)), "0: 1 1");
        Check.due("nobody: one or more", Check.asked(nobody, nobody.quiet(1, 0)), "0: 0 1");
    }

    private static void quietRefused() {
        Sentence.of(39, "-2: there are more than 16 such hours");
        DeadTillSix x = Check.town(SIX);
        x.dies(0, 9);
        x.dies(1, 7);
        // Nine tenths for 16 hours, over ten to the 16th.
        Check.due("16 hours", Check.asked(x, x.quiet(2, 1)), "0: 1853020188851841 10000000000000000");
        Check.due("by 9 tenths", Check.asked(x, x.quiet(2, 9)), "0: 1 10000000000000000");
        x.dies(5, 1);
        Check.due("17 hours", Check.asked(x, x.quiet(2, 1)), "-2: 1 10000000000000000");
        Check.due("17 hours, though it is plain", x.quiet(0, 0), -2);
        x.hours(1);
        Check.due("an hour later", x.quiet(0, 0), 0);
        x.dies(2, 9);
        Check.due("23 hours", x.quiet(0, 0), -2);
        x.coughs(2);
        Check.due("a cough less", x.quiet(0, 0), 0);
        Sentence.of(39, "NONE: others.");
        for (int k : new int[] {-1, 7, FAR[0], FAR[1]}) {
            Check.dueAndNothing("quiet(" + k + ", 5)", y -> y.quiet(k, 5), -1);
        }
        for (int p : new int[] {-1, 11, FAR[0], FAR[1]}) {
            Check.dueAndNothing("quiet(1, " + p + ")", y -> y.quiet(1, p), -1);
        }
    }

    private static void rests() {
        Sentence.of(40, "Two speak at the same screen, x and y (0 .. 9) warm");
        DeadTillSix x = new DeadTillSix();
        Check.due("nothing for nothing: all pairs", Check.asked(x, x.rests(0, 0)), "100: 0 0");
        Check.due("as warm as can be", Check.asked(x, x.rests(3, 0)), "1: 9 9");
        Sentence.of(40, "a widow gives v (0 .. 20) to the warmer one, to like ones half each (cut)");
        // Half of 1 is nothing: so who is less warm than 9 has no more by 9.
        Check.due("half of 1", Check.asked(x, x.rests(1, 0)), "19: 0 9");
        Check.due("half of 2", Check.asked(x, x.rests(2, 0)), "1: 9 9");
        Check.due("half of 20", Check.asked(x, x.rests(20, 0)), "1: 9 9");
        Sentence.of(40, "each warmth costs c (0 .. 5), but one of them is free for who is warmer by 2 or more");
        Check.due("of no use", Check.asked(x, x.rests(0, 1)), "1: 0 0");
        Check.due("of no use, dear", Check.asked(x, x.rests(0, 5)), "1: 0 0");
        // By 1 or by 2 one has 1 less 1, as by 0: 0 0, 0 1, 0 2, 1 0, 2 0.
        Check.due("free by 2", Check.asked(x, x.rests(1, 1)), "5: 0 0");
        Sentence.of(40, "the ROW: the least (nothing without)");
        // Like ones would be 1 warmer; who is less warm would rather be 0, and then 1 warmer than 1 or 2.
        Check.due("none", Check.asked(x, x.rests(20, 5)), "0: ");
    }

    private static void restsRefused() {
        Sentence.of(40, "NONE: others.");
        Check.due("the most of both", new DeadTillSix().rests(20, 5), 0);
        for (int v : new int[] {-1, 21, FAR[0], FAR[1]}) {
            Check.dueAndNothing("rests(" + v + ", 0)", x -> x.rests(v, 0), -1);
        }
        for (int c : new int[] {-1, 6, FAR[0], FAR[1]}) {
            Check.dueAndNothing("rests(0, " + c + ")", x -> x.rests(0, c), -1);
        }
    }
}
