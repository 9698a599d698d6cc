/** Boundary cases of promises 41 to 46. */
final class KeptEdges {
    private static final int[] FAR = {Integer.MAX_VALUE, Integer.MIN_VALUE};
    private static final String THREE = "0730009;5040004;9200001";
    private static final String FORTY = "o+d+t+e+f+n+o+d+t+e+f+n+o+d+t+e+f+n+o+12";

    private KeptEdges() {
    }

    static void all() {
        law();
        lawThatCannot();
        years();
        yearsWithout();
        yearsRefused();
        keep();
        again();
        againRefused();
        count();
        row();
    }

    private static void law() {
        Sentence.of(41, "THE TEXT is another RULE (an empty one: none)");
        DeadTillSix x = Check.town(THREE);
        Check.due("none by none", Check.asked(x, Check.law(x, "")), "0: 0 0");
        Check.rule(x, "1");
        x.dies(0, 9);
        // 1 and 2 say 5 and 9 of 0 by none, in nine of twelve hours.
        Check.due("none by another one", Check.asked(x, Check.law(x, "")), "108: 126 18");
        Sentence.of(41, "less that by THE RULE (below 0, too); the ROW: both, by it first");
        Check.due("below 0", Check.asked(x, Check.law(x, "0")), "-18: 0 18");
        Check.due("the same", Check.asked(x, Check.law(x, "1")), "0: 18 18");
        Check.due("the most", Check.asked(x, Check.law(x, "999")), "144: 162 18");
        Check.due("THE RULE stays", x.between(0, 1, 1), 1);
        // Five said 9 of 0 in 216 hours, and would in nine more: 9999 at most.
        DeadTillSix y = Check.town("9999990;9999990;9999990;9999990;9999990;9999990");
        Check.afternoon(y, "d09h9".repeat(12));
        Check.afternoon(y, "d09h9".repeat(12));
        y.dies(0, 9);
        Check.due("at its most", Check.asked(y, Check.law(y, "0")), "-279: 9720 9999");
    }

    private static void lawThatCannot() {
        Sentence.of(41, "-100000 - p: the sign at p can't stand there (as rule())");
        for (int p = 0; p < 40; p++) {
            Check.dueAndEmptied(FORTY.substring(0, p) + 'x' + FORTY.substring(p + 1), DeadTillSix::law, -100000 - p);
        }
        for (int length = 2; length < 40; length += 2) {
            Check.dueAndEmptied(FORTY.substring(0, length), DeadTillSix::law, -100000 - length);
        }
        Check.dueAndEmptied(FORTY + "+", DeadTillSix::law, -100000 - 40);
        Check.dueAndEmptied(FORTY + "x", DeadTillSix::law, -100000 - 40);
        Check.dueAndEmptied("(".repeat(5) + "o", DeadTillSix::law, -100000 - 4);
        Check.due("40 stand", Check.law(Check.town(THREE), FORTY), 0);
    }

    private static int state;

    private static int draw(int n) {
        state = state * 1103515245 + 12345;
        return (int) ((state & 0xffffffffL) / 65536 % n);
    }

    /** What years() are to answer, played on an object of its own by the calls that they name. */
    private static String played(DeadTillSix x, int seed, int n) {
        state = seed;
        for (int i = 0; i < n; i++) {
            int what = draw(4);
            if (what < 2) {
                x.hours(1);
            } else if (what == 2) {
                int who = draw(3);
                x.dies(who, draw(9) + 1);
            } else {
                x.coughs(draw(3));
            }
        }
        return x.count(4) + ": " + Integer.bitCount(x.count(2)) + " " + x.count(5);
    }

    private static void years() {
        Sentence.of(42, "n times (1 .. 60): a DRAW of 4 tells: 0, 1: AN HOUR");
        for (int n = 1; n <= 60; n++) {
            DeadTillSix x = Check.town(THREE);
            Check.due("years(7, " + n + ")", Check.asked(x, x.years(7, n)), played(Check.town(THREE), 7, n));
        }
        Sentence.of(42, "A DRAW of n: R = R times 1103515245 + 12345 (as ints; R is seed at first), "
                + "(R without sign, by 65536) % n");
        int[] seeds = {0, 1, -1, FAR[0], FAR[1], 65535, 65536, -65536, 123456789, -987654321};
        for (int seed : seeds) {
            DeadTillSix x = Check.town(THREE);
            Check.due("years(" + seed + ", 60)", Check.asked(x, x.years(seed, 60)), played(Check.town(THREE), seed, 60));
            Check.due("the same again", Check.asked(x, x.years(seed, 60)), played(Check.town(THREE), seed, 60));
        }
    }

    /** A seed by which the first DRAW of 4 is this one. */
    private static int seedOf(int first) {
        for (int seed = 0; seed < 100; seed++) {
            state = seed;
            if (draw(4) == first) {
                return seed;
            }
        }
        return 0;
    }

    private static void yearsWithout() {
        Sentence.of(42, "(each if it can be; 2, 3: nothing, no DRAWS more, without PEOPLE)");
        DeadTillSix nobody = new DeadTillSix();
        for (int first = 0; first < 4; first++) {
            Check.due("without people, " + first, Check.asked(nobody, nobody.years(seedOf(first), 60)), "0: 0 0");
        }
        DeadTillSix alone = Check.town("0000000");
        Check.due("one alone can die", Check.asked(alone, alone.years(seedOf(2), 1)), "0: 1 1");
        // All are dead, so nobody can die; all live, so nobody can cough.
        DeadTillSix dead = Check.town(THREE);
        Check.afternoon(dead, "d09d19d29");
        Check.due("nobody can die", Check.asked(dead, dead.years(seedOf(2), 1)), "0: 3 3");
        Check.due("one can cough", Check.asked(dead, dead.years(seedOf(3), 1)), "0: 2 3");
        DeadTillSix living = Check.town(THREE);
        Check.due("nobody can cough", Check.asked(living, living.years(seedOf(3), 1)), "0: 0 0");
        Check.due("one can die", Check.asked(living, living.years(seedOf(2), 1)), "0: 1 1");
        living.dies(0, 1);
        Check.due("an hour", Check.asked(living, living.years(seedOf(0), 1)), "14: 0 1");
        Check.due("an hour by 1", Check.asked(living, living.years(seedOf(1), 1)), "14: 0 1");
    }

    private static void yearsRefused() {
        Sentence.of(42, "NONE: another n.");
        for (int n : new int[] {0, -1, 61, FAR[0], FAR[1]}) {
            Check.dueAndNothing("years(1, " + n + ")", x -> x.years(1, n), -1);
        }
    }

    private static void keep() {
        Sentence.of(43, "What undo() brings back is kept under a number 0 .. 1: true.");
        DeadTillSix x = Check.town(THREE);
        Check.rule(x, "5");
        Check.afternoon(x, "l012d02h1");
        String first = Check.seen(x);
        Check.due("keep(0)", x.keep(0), true);
        Check.afternoon(x, "h1d12h1");
        String second = Check.seen(x);
        Check.due("keep(1)", x.keep(1), true);
        x.hours(9);
        Check.due("again(0)", x.again(0), true);
        Check.due("the first", Check.seen(x), first);
        Check.due("again(1)", x.again(1), true);
        Check.due("the second", Check.seen(x), second);
        DeadTillSix nobody = new DeadTillSix();
        nobody.hours(3);
        Check.due("without people", nobody.keep(0), true);
        nobody.hours(4);
        Check.due("again", nobody.again(0), true);
        Check.due("the hour", nobody.count(1), 3);
        Sentence.of(43, "Refused: others.");
        for (int i : new int[] {-1, 2, 3, FAR[0], FAR[1]}) {
            Check.dueAndNothing("keep(" + i + ")", y -> y.keep(i) ? 1 : 0, 0);
        }
    }

    private static void again() {
        Sentence.of(44, "It is as it was kept under a number.");
        DeadTillSix x = Check.town(THREE);
        Check.rule(x, "5");
        x.keep(0);
        String kept = Check.seen(x);
        Check.rule(x, "6");
        x.heard(0, 1);
        x.listens(1, 1, 1);
        x.said(0);
        Check.say(x, "h1");
        Check.afternoon(x, "l011d01h1");
        x.said(0);
        Check.say(x, "h1");
        x.sheet(2, 3, 50, 0);
        Check.due("again(0)", x.again(0), true);
        Check.due("as it was", Check.seen(x), kept);
        Check.due("what undo() does not bring back is as it is",
                x.between(0, 1, 1) + " " + x.count(8) + " " + x.count(9) + " " + Check.row(x) + " " + x.count(12), "6 1 1 6 6 2");
        x.hours(7);
        Check.due("again(0) once more", x.again(0), true);
        Check.due("as it was", Check.seen(x), kept);
    }

    private static void againRefused() {
        Sentence.of(44, "Refused: nothing kept, PEOPLE came since.");
        for (int i : new int[] {1, -1, 2, FAR[0], FAR[1]}) {
            Check.dueAndNothing("again(" + i + ")", y -> y.again(i) ? 1 : 0, 0);
        }
        Check.due("of a new object", new DeadTillSix().again(0), false);
        DeadTillSix x = Check.town("0000000");
        x.keep(0);
        x.people();
        Check.people(x, "0000000;");
        Check.due("nobody came", x.again(0), true);
        Check.people(x, "0000000");
        x.keep(1);
        x.hours(2);
        Check.due("one came", x.again(0), false);
        Check.due("nothing changes", x.count(0) + " " + x.count(1) + " " + x.count(10), "2 2 1");
        Check.due("what was kept since", x.again(1), true);
        Check.due("one came, still", x.again(0), false);
        x.keep(0);
        Check.due("kept anew", x.again(0), true);
    }

    private static void count() {
        Sentence.of(45, "What 0: PEOPLE, 1: HOUR, 2: those who are DEAD (bits), 3: CASH of all, 4: HONOUR of all, 5: TIMES of all, "
                + "6: DEBTS together, 7: OPINIONS of all of all others, 8: what was heard, 9: what was listened to, 10: what "
                + "can be undone, 11: numbers of the ROW, 12: signs of THE TEXT, 13: WORDS of each of each other one now, "
                + "together.");
        DeadTillSix x = Check.town("9999999;9999999;9999999;9999999;9999999;9999999");
        x.sheet(2, 6, 99, 0);
        for (int i = 0; i < 6; i++) {
            x.dies(i, 9);
        }
        for (int i = 0; i < 12; i++) {
            x.heard(0, 0);
            x.listens(0, 0, 0);
            x.hours(1);
        }
        x.later(0, 0);
        for (int i = 0; i < 20; i++) {
            x.sign(0);
        }
        int[] full = {6, 12, 0, 594, 0, 6, 0, 270, 12, 12, 12, 6, 80, 270};
        for (int what = 0; what < 14; what++) {
            Check.due("count(" + what + ") of much", x.count(what), full[what]);
        }
        x.dies(0, 9);
        x.dies(5, 9);
        Check.due("those who are dead", x.count(2), 33);
        Sentence.of(45, "NONE for another what.");
        for (int what : new int[] {-1, 14, 15, FAR[0], FAR[1]}) {
            Check.dueAndNothing("count(" + what + ")", y -> y.count(what), -1);
        }
    }

    private static void row() {
        Sentence.of(46, "NoSuchElementException: none such.");
        DeadTillSix x = Check.town(THREE);
        Check.dueNoSuch("row(0) of none", () -> x.row(0));
        x.later(0, 0);
        Check.due("the first", x.row(0), 0);
        Check.due("the last", x.row(2), 0);
        for (int i : new int[] {-1, 3, 4, 6, FAR[0], FAR[1]}) {
            Check.dueNoSuch("row(" + i + ")", () -> x.row(i));
        }
        x.bank(1, 2);
        Check.dueNoSuch("row(0) of an empty one", () -> x.row(0));
        DeadTillSix six = Check.town("0000000;0000000;0000000;0000000;0000000;0000000");
        six.settles();
        Check.due("the last of six", six.row(5), 1000);
        Check.dueNoSuch("row(6) of six", () -> six.row(6));
    }
}
