/** Boundary cases of promises 26 to 29. */
final class DebtEdges {
    private static final int[] NONE_SUCH = {-1, 4, 5, 6, Integer.MAX_VALUE, Integer.MIN_VALUE};
    private static final String SIX = "0000009;0000009;0000009;0000009;0000009;0000009";

    private DebtEdges() {
    }

    static void all() {
        owes();
        settles();
        settlesAtTheEnds();
        groups();
        streetsByHonour();
        streetsInOrder();
        streetsThatCannot();
    }

    private static void owes() {
        Sentence.of(26, "DEBT of one to another one in n HOURS (0 .. 99), nothing being done: it; "
                + "the ROW: in how many of these HOURS it grew");
        DeadTillSix x = Check.town("0000009;0000009");
        Check.due("none, in 99", Check.asked(x, x.owes(1, 0, 99)), "0: 0");
        x.lends(0, 1, 1);
        for (int n = 0; n <= 99; n++) {
            Check.due("in " + n, Check.asked(x, x.owes(1, 0, n)), Math.min(99, 1 + n) + ": " + Math.min(98, n));
        }
        Check.due("the other way", Check.asked(x, x.owes(0, 1, 99)), "0: 0");
        x.dies(0, 9);
        Check.due("as long as one is dead", Check.asked(x, x.owes(1, 0, 9)), "1: 0");
        Check.due("an hour later", Check.asked(x, x.owes(1, 0, 10)), "2: 1");
        Check.due("in 99", Check.asked(x, x.owes(1, 0, 99)), "91: 90");
        Sentence.of(26, "NONE: others, like ones.");
        for (int n : new int[] {-1, 100, Integer.MAX_VALUE, Integer.MIN_VALUE}) {
            Check.dueAndNothing("owes(1, 0, " + n + ")", y -> y.owes(1, 0, n), -1);
        }
        for (int none : NONE_SUCH) {
            Check.dueAndNothing("owes(0, " + none + ", 0)", y -> y.owes(0, none, 0), -1);
            Check.dueAndNothing("owes(" + none + ", 0, 0)", y -> y.owes(none, 0, 0), -1);
        }
        for (int one = 0; one < 4; one++) {
            int like = one;
            Check.dueAndNothing("owes(" + one + ", " + one + ", 0)", y -> y.owes(like, like, 0), -1);
        }
    }

    private static void settles() {
        Sentence.of(27, "The fewest payments (each of any sum, by one to another one, CASH aside)");
        DeadTillSix nobody = new DeadTillSix();
        nobody.fits();
        Check.due("without people", Check.asked(nobody, nobody.settles()), "0: ");
        DeadTillSix alone = Check.town("0000009");
        Check.due("one alone", Check.asked(alone, alone.settles()), "0: 1000");
        DeadTillSix x = Check.town(SIX);
        Check.due("no debts", Check.asked(x, x.settles()), "0: 1000 1000 1000 1000 1000 1000");
        x.lends(0, 1, 1);
        Check.due("one debt", Check.asked(x, x.settles()), "1: 1001 999 1000 1000 1000 1000");
        x.lends(1, 0, 1);
        Check.due("as much the other way", Check.asked(x, x.settles()), "0: 1000 1000 1000 1000 1000 1000");
        x.undo();
        x.lends(0, 2, 1);
        x.lends(0, 3, 1);
        x.lends(0, 4, 1);
        x.lends(0, 5, 1);
        Check.due("five of them", Check.asked(x, x.settles()), "5: 1005 999 999 999 999 999");
        x.sheet(3, 0, 0, 0);
        Check.due("without any cash", x.settles(), 5);
        for (int i = 0; i < 6; i++) {
            x.dies(i, 9);
        }
        Check.due("the dead, too", x.settles(), 5);
    }

    private static void settlesAtTheEnds() {
        Sentence.of(27, "by PEOPLE 1000 and what is owed to it less what it owes");
        DeadTillSix x = Check.town(SIX);
        for (int i = 1; i < 6; i++) {
            x.sheet(2, 1, 99, 0);
            Check.due("a loan of all", x.lends(0, i, 99), 99);
        }
        Check.due("the most that is owed to one", Check.asked(x, x.settles()), "5: 1495 901 901 901 901 901");
        DeadTillSix y = Check.town(SIX);
        for (int i = 1; i < 6; i++) {
            y.sheet(2, 6, 0, 99);
            Check.due("a loan of all", y.lends(i, 0, 99), 99);
        }
        Check.due("the most that one owes", Check.asked(y, y.settles()), "5: 505 1099 1099 1099 1099 1099");
    }

    private static void groups() {
        Sentence.of(28, "the ROW: the group of the first one (bits: of as many groups in all the least)");
        for (int people = 1; people <= 6; people++) {
            DeadTillSix x = Check.town(SIX.substring(0, 8 * people - 1));
            Check.due(people + " without debts", Check.asked(x, x.groups()), people + ": 1");
        }
        DeadTillSix y = Check.town(SIX);
        y.lends(5, 0, 2);
        Check.due("with the last one", Check.asked(y, y.groups()), "5: 33");
        y.lends(3, 4, 2);
        // -2, 0, 0, 2, -2, 2: the first one with 3 or with 5.
        Check.due("of as many the least", Check.asked(y, y.groups()), "4: 9");
        DeadTillSix z = Check.town(SIX);
        z.lends(0, 1, 1);
        z.lends(0, 2, 2);
        z.lends(3, 4, 2);
        z.lends(5, 4, 1);
        // 3, -1, -2, 2, -3, 1: three pairs, though the first one with 1 and 2 would be less.
        Check.due("the most groups go first", Check.asked(z, z.groups()), "3: 17");
        DeadTillSix all = Check.town(SIX);
        for (int i = 1; i < 6; i++) {
            all.lends(0, i, 1);
        }
        Check.due("all in one", Check.asked(all, all.groups()), "1: 63");
        Sentence.of(28, "(0 and nothing without PEOPLE.)");
        DeadTillSix nobody = new DeadTillSix();
        nobody.fits();
        Check.due("without people", Check.asked(nobody, nobody.groups()), "0: ");
    }

    /** One of two has this HONOUR, the other one has none. */
    private static DeadTillSix honoured(int honour) {
        DeadTillSix x = Check.town("0000000;0000000");
        for (int left = honour; left > 0; left -= 9) {
            Check.rule(x, "" + Math.min(9, left));
            Check.afternoon(x, "d01h1");
        }
        return x;
    }

    private static void streetsByHonour() {
        Sentence.of(29, "who has HONOUR of 10 times its digit or more");
        for (int digit = 1; digit <= 9; digit++) {
            DeadTillSix less = honoured(10 * digit - 1);
            Check.due("one less than " + 10 * digit, Check.asked(less, Check.streets(less, "" + digit)), "0: -1");
            DeadTillSix just = honoured(10 * digit);
            Check.due("just " + 10 * digit, Check.asked(just, Check.streets(just, "" + digit)), "1: 0");
        }
        DeadTillSix none = honoured(0);
        Check.due("none is enough for 0", Check.asked(none, Check.streets(none, "0")), "1: 0");
        Check.due("but not for 1", Check.asked(none, Check.streets(none, "1")), "0: -1");
    }

    private static void streetsInOrder() {
        Sentence.of(29, "by STREETS for whom (-1: nobody): of as many the least row");
        DeadTillSix nobody = new DeadTillSix();
        Check.due("without people", Check.asked(nobody, Check.streets(nobody, "000000")), "0: -1 -1 -1 -1 -1 -1");
        DeadTillSix x = honoured(20);
        Check.due("one for two streets", Check.asked(x, Check.streets(x, "22")), "1: -1 0");
        Check.due("two for three streets", Check.asked(x, Check.streets(x, "000")), "2: -1 0 1");
        Check.due("each for another one", Check.asked(x, Check.streets(x, "20")), "2: 0 1");
        Check.due("the first one where it must be", Check.asked(x, Check.streets(x, "02")), "2: 1 0");
        Check.due("nobody where nobody can", Check.asked(x, Check.streets(x, "309")), "1: -1 0 -1");
        DeadTillSix six = Check.town(SIX);
        Check.due("six for six", Check.asked(six, Check.streets(six, "000000")), "6: 0 1 2 3 4 5");
        Check.due("five for five", Check.asked(six, Check.streets(six, "00000")), "5: 0 1 2 3 4");
    }

    private static void streetsThatCannot() {
        Sentence.of(29, "THE TEXT tells STREETS (1 to 6 digits)");
        for (int length = 1; length <= 6; length++) {
            DeadTillSix x = Check.town("0000000");
            Check.due(length + " digits", Check.streets(x, "123456".substring(0, length)), 0);
            Check.due("its row", x.count(11), length);
        }
        Sentence.of(29, "-1 - p: the sign at p can't stand there (its end for none; a seventh sign: at it)");
        Check.dueAndEmptied("", DeadTillSix::streets, -1);
        for (int p = 0; p < 6; p++) {
            for (char sign : new char[] {'/', ':', ';', 'x', ' ', '-', (char) 0, (char) 255}) {
                Check.dueAndEmptied("000000".substring(0, p) + sign, DeadTillSix::streets, -1 - p);
                Check.dueAndEmptied("000000".substring(0, p) + sign + "000000", DeadTillSix::streets, -1 - p);
            }
        }
        Check.dueAndEmptied("0000000", DeadTillSix::streets, -1 - 6);
        Check.dueAndEmptied("000000x", DeadTillSix::streets, -1 - 6);
        Check.dueAndEmptied("0".repeat(80), DeadTillSix::streets, -1 - 6);
    }
}
