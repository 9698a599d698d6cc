/** Promises 30 to 40: who spoke, a law of speaking, the bank, coughs by chance, and eulogies at rest. */
public final class PuzzleTest {
    static final String THREE = PeopleTest.THREE;

    public static void main(String[] args) {
        hearing();
        fitting();
        asking();
        listening();
        lawsThatFit();
        tryingNext();
        atTheBank();
        quietOnes();
        resting();
        Check.close();
    }

    private static void hearing() {
        DeadTillSix x = new DeadTillSix();
        int[][] most = {{0, 99}, {1, 1}, {2, 9}, {3, 1}, {4, 99}};
        int n = 0;
        for (int[] m : most) {
            Check.due("30: heard(" + m[0] + ", 0)", x.heard(m[0], 0), ++n);
            Check.due("30: heard(" + m[0] + ", " + m[1] + ")", x.heard(m[0], m[1]), ++n);
            Check.due("30: too much", x.heard(m[0], m[1] + 1), -1);
            Check.due("30: too little", x.heard(m[0], -1), -1);
        }
        Check.due("30: another what", x.heard(5, 0), -1);
        Check.due("30: another what", x.heard(-1, 0), -1);
        Check.due("30: eleven", x.heard(0, 0), 11);
        Check.due("30: twelve", x.heard(0, 0), 12);
        Check.due("30: no more", x.heard(0, 0), -1);
        Check.due("30: twelve are kept", x.count(8), 12);
        Check.due("31: forget()", x.forget(), 12);
        Check.due("31: again", x.forget(), 0);
        Check.due("31: none is left", x.count(8), 0);
        Check.due("30: one", x.heard(4, 5), 1);
    }

    private static int fits(DeadTillSix x, int what, int v) {
        x.forget();
        x.heard(what, v);
        return x.fits();
    }

    private static void fitting() {
        DeadTillSix x = Check.town(THREE);
        Check.due("32: all, if nothing was heard", Check.asked(x, x.fits()), "7: 3");
        x.dies(1, 5);
        x.lends(0, 2, 1);
        // CASH 8, 4, 2; 1 is DEAD, once; 2 owes.
        Check.due("32: cash of 4 or more", Check.asked(x, fits(x, 0, 4)), "3: 2");
        Check.due("32: cash of 9 or more", Check.asked(x, fits(x, 0, 9)), "0: 0");
        Check.due("32: dead", fits(x, 1, 1), 2);
        Check.due("32: lives", fits(x, 1, 0), 5);
        Check.due("32: says 7 of 0", fits(x, 2, 7), 2);
        Check.due("32: says 9 of 0", fits(x, 2, 9), 4);
        Check.due("32: owes somebody", fits(x, 3, 1), 4);
        Check.due("32: owes nobody", fits(x, 3, 0), 3);
        Check.due("32: dead never", fits(x, 4, 0), 5);
        Check.due("32: dead once or less", fits(x, 4, 1), 7);
        x.forget();
        x.heard(0, 4);
        x.heard(1, 0);
        Check.due("32: both", Check.asked(x, x.fits()), "1: 1");
        x.heard(2, 7);
        Check.due("32: 0 says nothing of itself", Check.asked(x, x.fits()), "0: 0");
        Check.due("32: without people", fits(new DeadTillSix(), 4, 9), 0);
    }

    private static void asking() {
        DeadTillSix x = Check.town(THREE);
        // CASH 9, 4, 1.
        Check.due("33: of three", Check.asked(x, x.asks()), "2: 2");
        x.heard(0, 4);
        Check.due("33: of two", Check.asked(x, x.asks()), "5: 1");
        x.heard(0, 5);
        Check.due("33: of one", Check.asked(x, x.asks()), "0: 1");
        x.heard(0, 10);
        Check.due("33: of none", Check.asked(x, x.asks()), "-2: 1");
        x.forget();
        x.sheet(2, 3, 99, 0);
        Check.due("33: alike", Check.asked(x, x.asks()), "0: 3");
        x.sheet(2, 3, 99, -1);
        Check.due("33: near the top", Check.asked(x, x.asks()), "98: 2");
        x.sheet(2, 3, 99, -1);
        x.heard(0, 98);
        Check.due("33: at the top", Check.asked(x, x.asks()), "99: 1");
        x.forget();
        x.sheet(2, 2, 0, 1);
        Check.due("33: at the bottom", Check.asked(x, x.asks()), "1: 2");
        Check.due("33: without people", new DeadTillSix().asks(), -2);
    }

    private static void listening() {
        DeadTillSix x = new DeadTillSix();
        Check.due("34: one", x.listens(0, 0, 0), 1);
        Check.due("34: another one", x.listens(9, 1, 9), 2);
        int[][] wrong = {{10, 0, 0}, {-1, 0, 0}, {0, 2, 0}, {0, -1, 0}, {0, 0, 10}, {0, 0, -1}};
        for (int[] w : wrong) {
            Check.due("34: listens(" + w[0] + ", " + w[1] + ", " + w[2] + ")", x.listens(w[0], w[1], w[2]), -1);
        }
        for (int i = 3; i <= 12; i++) {
            Check.due("34: more", x.listens(0, 0, 0), i);
        }
        Check.due("34: no more", x.listens(0, 0, 0), -1);
        Check.due("34: twelve are kept", x.count(9), 12);
        Check.due("35: doubts()", x.doubts(), 12);
        Check.due("35: again", x.doubts(), 0);
        Check.due("35: none is left", x.count(9), 0);
    }

    private static void lawsThatFit() {
        DeadTillSix x = new DeadTillSix();
        Check.due("36: all", Check.asked(x, x.laws()), "361: -9 -9");
        x.listens(5, 0, 7);
        Check.due("36: a is 2", Check.asked(x, x.laws()), "19: 2 -9");
        x.listens(3, 1, 0);
        Check.due("36: b is -3 or less", Check.asked(x, x.laws()), "7: 2 -9");
        x.listens(6, 1, 1);
        Check.due("36: b is -5", Check.asked(x, x.laws()), "1: 2 -5");
        x.listens(9, 1, 9);
        Check.due("36: none", Check.asked(x, x.laws()), "0: ");
        DeadTillSix y = new DeadTillSix();
        y.listens(4, 1, 9);
        Check.due("36: b is 5 or more", Check.asked(y, y.laws()), "95: -9 5");
        y.listens(4, 0, 9);
        Check.due("36: a, too", Check.asked(y, y.laws()), "25: 5 5");
    }

    private static void tryingNext() {
        DeadTillSix x = new DeadTillSix();
        // Of 19 shifts, 4 and a shift is 0 for six, 9 for five: six times nineteen at most.
        Check.due("37: at first", Check.asked(x, x.tries()), "4: 114");
        x.listens(4, 0, 0);
        // a is -9 .. -4: by 9 each says another word; so for b 6 of 19 are left, times 6, by a 1 times 19.
        Check.due("37: then", Check.asked(x, x.tries()), "9: 19");
        x.listens(9, 0, 5);
        Check.due("37: of the dead", Check.asked(x, x.tries()), "14: 6");
        x.listens(4, 1, 4);
        Check.due("37: one is left", Check.asked(x, x.tries()), "0: 1");
        x.listens(4, 1, 5);
        Check.due("37: none is left", Check.asked(x, x.tries()), "-2: 1");
        DeadTillSix y = new DeadTillSix();
        y.listens(5, 0, 5);
        y.listens(9, 1, 9);
        // b is 0 .. 9, and by 0 each of them says another word.
        Check.due("37: by OPINION 0 of the dead", Check.asked(y, y.tries()), "10: 1");
        DeadTillSix z = new DeadTillSix();
        z.listens(5, 1, 5);
        z.listens(9, 0, 9);
        Check.due("37: by OPINION 0 of the living", Check.asked(z, z.tries()), "0: 1");
    }

    private static void atTheBank() {
        DeadTillSix x = new DeadTillSix();
        Check.due("38: one coin", Check.asked(x, x.bank(1, 2)), "0: ");
        Check.due("38: two coins", Check.asked(x, x.bank(2, 2)), "1: 1 0");
        Check.due("38: three, and two at once", Check.asked(x, x.bank(3, 2)), "1: 2 1");
        Check.due("38: three, not so many", Check.asked(x, x.bank(3, 4)), "0: ");
        // Four: half of them leaves two, by which the other one wins; one leaves three, where two at once win.
        Check.due("38: four, two at once", Check.asked(x, x.bank(4, 2)), "0: ");
        // Three at once would win, too, but one is less.
        Check.due("38: four, three at once", Check.asked(x, x.bank(4, 3)), "1: 1 0");
        Check.due("38: four, five at once", Check.asked(x, x.bank(4, 5)), "1: 1 0");
        Check.due("38: none", Check.asked(x, x.bank(0, 2)), "-2: 1 0");
        int[][] wrong = {{-1, 2}, {100, 2}, {5, 1}, {5, 10}, {Integer.MAX_VALUE, 2}, {5, Integer.MIN_VALUE}};
        for (int[] w : wrong) {
            Check.due("38: bank(" + w[0] + ", " + w[1] + ")", x.bank(w[0], w[1]), -1);
        }
        for (int n = 1; n <= 99; n++) {
            DeadTillSix y = new DeadTillSix();
            Model m = new Model();
            for (int k = 2; k <= 9; k++) {
                String want = m.bank(n, k) + ": " + m.told;
                Check.due("38: bank(" + n + ", " + k + ")", Check.asked(y, y.bank(n, k)),
                        want.replace("[", "").replace("]", "").replace(",", ""));
            }
        }
    }

    private static void quietOnes() {
        DeadTillSix x = Check.town("0000000;0000000;0000000;0000000;0000000;0000000");
        Check.due("39: nobody is dead, none or more", Check.asked(x, x.quiet(0, 5)), "0: 1 1");
        Check.due("39: one or more", Check.asked(x, x.quiet(1, 0)), "0: 0 1");
        x.dies(0, 2);
        Check.due("39: one for two hours", Check.asked(x, x.quiet(1, 5)), "0: 1 4");
        Check.due("39: by a tenth", Check.asked(x, x.quiet(1, 1)), "0: 81 100");
        Check.due("39: surely", Check.asked(x, x.quiet(1, 10)), "0: 0 1");
        Check.due("39: never", Check.asked(x, x.quiet(1, 0)), "0: 1 1");
        x.dies(3, 1);
        // A quarter and a half: none of both by 3/8.
        Check.due("39: one of two", Check.asked(x, x.quiet(1, 5)), "0: 5 8");
        Check.due("39: both", Check.asked(x, x.quiet(2, 5)), "0: 1 8");
        Check.due("39: three", Check.asked(x, x.quiet(3, 5)), "0: 0 1");
        DeadTillSix six = Check.town("0000000;0000000;0000000;0000000;0000000;0000000");
        for (int i = 0; i < 6; i++) {
            six.dies(i, 1);
        }
        Check.due("39: six of six", Check.asked(six, six.quiet(6, 5)), "0: 1 64");
        Check.due("39: five of six", Check.asked(six, six.quiet(5, 5)), "0: 7 64");
        x.dies(4, 9);
        x.dies(5, 4);
        Check.due("39: sixteen hours", Check.asked(x, x.quiet(4, 1)), "0: 1853020188851841 10000000000000000");
        x.dies(1, 1);
        Check.due("39: seventeen", Check.asked(x, x.quiet(4, 1)), "-2: 1853020188851841 10000000000000000");
        int[][] wrong = {{-1, 5}, {7, 5}, {1, -1}, {1, 11}};
        for (int[] w : wrong) {
            Check.due("39: quiet(" + w[0] + ", " + w[1] + ")", x.quiet(w[0], w[1]), -1);
        }
    }

    private static void resting() {
        DeadTillSix x = new DeadTillSix();
        Check.due("40: nothing to have or to pay", Check.asked(x, x.rests(0, 0)), "100: 0 0");
        Check.due("40: dear", Check.asked(x, x.rests(1, 5)), "1: 0 0");
        // Free and worth it: like ones at 9, or 9 and 9 alone; below, 9 has more.
        Check.due("40: for nothing", Check.asked(x, x.rests(20, 0)), "1: 9 9");
        int[][] wrong = {{-1, 0}, {21, 0}, {0, -1}, {0, 6}};
        for (int[] w : wrong) {
            Check.due("40: rests(" + w[0] + ", " + w[1] + ")", x.rests(w[0], w[1]), -1);
        }
        Model m = new Model();
        boolean none = false;
        for (int v = 0; v <= 20; v++) {
            DeadTillSix y = new DeadTillSix();
            for (int c = 0; c <= 5; c++) {
                int want = m.rests(v, c);
                Check.due("40: rests(" + v + ", " + c + ")", y.rests(v, c), want);
                Check.due("40: its row", "[" + Check.row(y).replace(" ", ", ") + "]", "" + m.told);
                none |= want == 0 && y.count(11) == 0;
            }
        }
        Check.due("40: some have none, and no row", none, true);
    }
}
