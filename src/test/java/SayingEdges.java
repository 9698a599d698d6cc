/** Boundary cases of promises 16 to 25. */
final class SayingEdges {
    private static final int[] NONE_SUCH = {-1, 4, 5, 6, Integer.MAX_VALUE, Integer.MIN_VALUE};
    private static final int[] NOT_AHEAD = {-1, 100, Integer.MAX_VALUE, Integer.MIN_VALUE};
    private static final int[] NO_DEATH = {0, -1, 10, Integer.MAX_VALUE, Integer.MIN_VALUE};
    private static final String SIX = "0000009;0000009;0000009;0000009;0000009;0000009";

    private SayingEdges() {
    }

    static void all() {
        said();
        later();
        most();
        longest();
        together();
        heir();
        heirAtTheEnds();
        thinks();
        flattery();
        wakes();
        echo();
    }

    private static String people(int n) {
        return SIX.substring(0, Math.max(0, 8 * n - 1));
    }

    private static void said() {
        Sentence.of(16, "WORDS of all who live of one of PEOPLE now, added up (its own not)");
        DeadTillSix x = Check.town("9123450;1923450;1293450;1239450;1234950;1234590");
        Check.rule(x, "o");
        Check.due("of the first", Check.asked(x, x.said(0)), "5: 1 1 1 1 1");
        Check.due("of the last", Check.asked(x, x.said(5)), "25: 5 5 5 5 5");
        x.dies(0, 1);
        x.dies(3, 1);
        Check.due("of the last, by those who live", Check.asked(x, x.said(5)), "15: 5 5 5");
        Check.due("of one who is dead", Check.asked(x, x.said(0)), "4: 1 1 1 1");
        x.dies(1, 1);
        x.dies(2, 1);
        x.dies(4, 1);
        Check.due("of the only one who lives", Check.asked(x, x.said(5)), "0: ");
        Check.due("by the only one who lives", Check.asked(x, x.said(4)), "5: 5");
        x.dies(5, 1);
        Check.due("nobody lives", Check.asked(x, x.said(4)), "0: ");
        DeadTillSix alone = Check.town("9000000");
        alone.fits();
        Check.due("of one alone", Check.asked(alone, alone.said(0)), "0: ");
        Sentence.of(16, "NONE: none such.");
        for (int none : NONE_SUCH) {
            Check.dueAndNothing("said(" + none + ")", y -> y.said(none), -1);
        }
    }

    private static void later() {
        Sentence.of(17, "HONOUR of one of PEOPLE in n HOURS (0 .. 99), nothing being done");
        DeadTillSix x = Check.town(people(2));
        Check.rule(x, "3");
        x.dies(1, 9);
        for (int n = 0; n <= 99; n++) {
            int honour = 3 * Math.min(9, n);
            Check.due("in " + n, Check.asked(x, x.later(1, n)), honour + ": 0 " + honour);
        }
        DeadTillSix alone = Check.town("0000000");
        Check.due("of one alone", Check.asked(alone, alone.later(0, 99)), "0: 0");
        Sentence.of(17, "NONE: others.");
        for (int n : NOT_AHEAD) {
            Check.dueAndNothing("later(0, " + n + ")", y -> y.later(0, n), -1);
        }
        for (int none : NONE_SUCH) {
            Check.dueAndNothing("later(" + none + ", 0)", y -> y.later(none, 0), -1);
        }
    }

    private static void most() {
        Sentence.of(18, "Who has the most HONOUR in n HOURS (0 .. 99), nothing being done: of equal ones the first");
        DeadTillSix x = Check.town(people(4));
        Check.rule(x, "1");
        Check.due("all are equal", Check.asked(x, x.most(0)), "0: 0 0");
        Check.due("all are equal, later", Check.asked(x, x.most(99)), "0: 0 0");
        x.dies(1, 1);
        x.dies(2, 1);
        Check.due("now", Check.asked(x, x.most(0)), "0: 0 0");
        Check.due("two are equal", Check.asked(x, x.most(1)), "1: 2 0");
        x.dies(3, 9);
        // 1 and 2 hear one who lives, in one hour; 3 hears one, then three.
        Check.due("three are equal", Check.asked(x, x.most(1)), "1: 1 0");
        Check.due("then the last has the most", Check.asked(x, x.most(2)), "3: 4 0");
        Check.due("at last", Check.asked(x, x.most(99)), "3: 25 0");
        Sentence.of(18, "how much, who has the least (of equal ones the first)");
        x.dies(0, 1);
        // Nobody lives in the first hour; then 0, 1 and 2 live.
        Check.due("all are equal", Check.asked(x, x.most(1)), "0: 0 0");
        DeadTillSix y = Check.town(people(3));
        Check.rule(y, "1");
        y.dies(0, 1);
        Check.due("the least behind it", Check.asked(y, y.most(1)), "0: 2 1");
        y.dies(1, 1);
        Check.due("the last has the least", Check.asked(y, y.most(1)), "0: 1 2");
        Sentence.of(18, "-2: there are no PEOPLE");
        DeadTillSix nobody = new DeadTillSix();
        Check.due("in none", Check.asked(nobody, nobody.most(0)), "-2: ");
        Check.due("in 99", Check.asked(nobody, nobody.most(99)), "-2: ");
        Check.due("one of people", Check.town("0000000").most(0), 0);
        Sentence.of(18, "NONE: another n.");
        for (int n : NOT_AHEAD) {
            Check.dueAndNothing("most(" + n + ")", z -> z.most(n), -1);
        }
    }

    private static void longest() {
        Sentence.of(19, "For how many hours (1 .. 9) one who lives is to be DEAD now");
        for (int hours = 1; hours <= 12; hours++) {
            DeadTillSix x = Check.town(people(3));
            Check.rule(x, "n<" + hours);
            int best = Math.min(9, hours);
            Check.due("words in " + hours + " hours", Check.asked(x, x.longest(2)), best + ": " + 2 * best + " 0");
        }
        Sentence.of(19, "of equal ones the least; the ROW: HONOUR then, HONOUR then if it were not");
        DeadTillSix y = Check.town(people(3));
        Check.rule(y, "0");
        Check.due("all are equal", Check.asked(y, y.longest(0)), "1: 0 0");
        Check.rule(y, "n=4");
        Check.due("five and more are equal", Check.asked(y, y.longest(0)), "5: 2 0");
        Check.afternoon(y, "d05h5");
        Check.due("honour that it has", Check.asked(y, y.longest(0)), "1: 2 2");
        DeadTillSix alone = Check.town("0000000");
        Check.due("one alone", Check.asked(alone, alone.longest(0)), "1: 0 0");
        Sentence.of(19, "-2: it is DEAD");
        Check.dueAndNothing("longest(0)", x -> x.longest(0), -2);
        DeadTillSix z = Check.town(people(2));
        z.dies(0, 1);
        Check.due("with an hour left", z.longest(0), -2);
        z.hours(1);
        Check.due("when it lives again", z.longest(0), 1);
        Sentence.of(19, "NONE: none such.");
        for (int none : NONE_SUCH) {
            Check.dueAndNothing("longest(" + none + ")", x -> x.longest(none), -1);
        }
    }

    private static void together() {
        Sentence.of(20, "for n hours (1 .. 9), so that all together have the most HONOUR in n HOURS: how much; "
                + "the ROW: they (bits: of as good ones the least)");
        int[] pairs = {0, 0, 1, 2, 4, 6, 9};
        int[] bits = {0, 0, 1, 1, 3, 3, 7};
        for (int people = 0; people <= 6; people++) {
            DeadTillSix x = Check.town(people(people));
            Check.rule(x, "1");
            for (int n = 1; n <= 9; n++) {
                Check.due(people + " people, " + n + " hours", Check.asked(x, x.together(n)),
                        n * pairs[people] + ": " + bits[people]);
            }
        }
        Sentence.of(20, "Which of those who live are to be DEAD now");
        DeadTillSix y = Check.town(people(3));
        Check.rule(y, "1");
        y.dies(0, 2);
        // 0 is dead, so 1 and 2 say 1 each; if 1 were dead, too, 2 would say 1 of both: as good.
        Check.due("one is dead", Check.asked(y, y.together(1)), "2: 0");
        // In three hours 0 lives for one, and 1 would hear it then.
        Check.due("one is dead and comes to live", Check.asked(y, y.together(3)), "6: 2");
        y.dies(1, 9);
        y.dies(2, 9);
        Check.due("nobody lives", Check.asked(y, y.together(2)), "0: 0");
        Sentence.of(20, "NONE: another n.");
        for (int n : NO_DEATH) {
            Check.dueAndNothing("together(" + n + ")", x -> x.together(n), -1);
        }
    }

    private static void heir() {
        Sentence.of(21, "by whose death now, for n hours (1 .. 9), one of PEOPLE would have the most CASH and what is owed "
                + "to it, less what it owes, in n HOURS: of equal ones the first");
        for (int n = 1; n <= 9; n++) {
            DeadTillSix x = Check.town(people(4));
            x.lends(0, 1, 5);
            // 0 has 9 and n more, if neither it nor 1 dies; 1 has 9 and n less, if neither it nor 0 dies.
            Check.due("of a creditor", Check.asked(x, x.heir(0, n)), "2: " + (1009 + n) + " " + (1009 + n));
            Check.due("of a debtor", Check.asked(x, x.heir(1, n)), "0: 1009 " + (1009 - n));
            Check.due("of one without debts, all being equal", Check.asked(x, x.heir(2, n)), "0: 1009 1009");
            x.dies(2, 9);
            Check.due("the other one who lives", Check.asked(x, x.heir(0, n)), "3: " + (1009 + n) + " " + (1009 + n));
            x.dies(3, 9);
            Check.due("the only other one who lives", Check.asked(x, x.heir(0, n)), "1: 1009 " + (1009 + n));
            Check.due("for one who is dead", Check.asked(x, x.heir(3, n)), "0: 1009 1009");
        }
        Sentence.of(21, "-2: there is no such one");
        DeadTillSix y = Check.town(people(2));
        y.dies(1, 1);
        Check.due("the other one is dead", Check.asked(y, y.heir(0, 1)), "-2: ");
        Check.due("it is dead itself", y.heir(1, 9), 0);
        y.dies(0, 1);
        Check.due("both are", y.heir(0, 9), -2);
        Check.due("one alone", Check.town("0000000").heir(0, 9), -2);
        Sentence.of(21, "NONE: others.");
        for (int n : NO_DEATH) {
            Check.dueAndNothing("heir(1, " + n + ")", x -> x.heir(1, n), -1);
            Check.due("of one alone", Check.town("0000000").heir(0, n), -1);
        }
        for (int none : NONE_SUCH) {
            Check.dueAndNothing("heir(" + none + ", 1)", x -> x.heir(none, 1), -1);
        }
    }

    private static void heirAtTheEnds() {
        Sentence.of(21, "1000 and that then, 1000 and that if nobody died");
        DeadTillSix x = Check.town(SIX);
        for (int i = 1; i < 6; i++) {
            x.sheet(2, 6, 0, 99);
            Check.due("a loan of all", x.lends(i, 0, 99), 99);
        }
        x.sheet(2, 0, 0, 0);
        Check.due("one who owes 99 to each", Check.asked(x, x.heir(0, 9)), "1: 505 505");
        DeadTillSix y = Check.town(SIX);
        for (int i = 1; i < 6; i++) {
            y.sheet(2, 1, 99, 0);
            y.lends(0, i, 99);
        }
        y.sheet(2, 1, 99, 0);
        Check.due("one who is owed 99 by each", Check.asked(y, y.heir(0, 9)), "1: 1594 1594");
    }

    private static void thinks() {
        Sentence.of(22, "in n HOURS (0 .. 99), nothing being done: it; the ROW: in how many of these HOURS it changed");
        for (int dead = 1; dead <= 9; dead++) {
            DeadTillSix x = Check.town("0300000;0000000;0000000");
            Check.rule(x, "9");
            x.dies(0, dead);
            Check.due("now", Check.asked(x, x.thinks(0, 1, 0)), "3: 0");
            Check.due("an hour before", Check.asked(x, x.thinks(0, 1, dead - 1)), "3: 0");
            Check.due("then", Check.asked(x, x.thinks(0, 1, dead)), "4: 1");
            Check.due("in 99", Check.asked(x, x.thinks(0, 1, 99)), "4: 1");
            Check.due("of the other one", Check.asked(x, x.thinks(1, 0, 99)), "0: 0");
        }
        Sentence.of(22, "NONE: others, like ones.");
        for (int n : NOT_AHEAD) {
            Check.dueAndNothing("thinks(0, 1, " + n + ")", y -> y.thinks(0, 1, n), -1);
        }
        for (int none : NONE_SUCH) {
            Check.dueAndNothing("thinks(0, " + none + ", 0)", y -> y.thinks(0, none, 0), -1);
            Check.dueAndNothing("thinks(" + none + ", 0, 0)", y -> y.thinks(none, 0, 0), -1);
        }
        for (int one = 0; one < 4; one++) {
            int like = one;
            Check.dueAndNothing("thinks(" + one + ", " + one + ", 0)", y -> y.thinks(like, like, 0), -1);
        }
    }

    private static void flattery() {
        Sentence.of(23, "the two (of like ones the least row), 1 if WORDS are more, else 0");
        DeadTillSix x = Check.town("0500000;5050000;5500000");
        Check.rule(x, "5");
        Check.due("the only one", Check.asked(x, x.flattery()), "5: 0 2 1");
        Check.rule(x, "o");
        Check.due("no difference at all", Check.asked(x, x.flattery()), "0: 0 1 0");
        DeadTillSix y = Check.town("0900000;0000000;0000000");
        Check.rule(y, "9*(o=0)");
        Check.due("9 less ahead of 9 more", Check.asked(y, y.flattery()), "9: 0 1 0");
        DeadTillSix z = Check.town("0000000;0000000;0900000");
        Check.rule(z, "9*(o=0)");
        Check.due("9 more ahead of 9 less", Check.asked(z, z.flattery()), "9: 0 1 1");
        Check.rule(z, "o-(o=9)");
        Check.due("the last one of all", Check.asked(z, z.flattery()), "1: 2 1 0");
        DeadTillSix first = Check.town("0000000;5000000");
        Check.rule(first, "o+(o=5)");
        Check.due("of the first one, 1 more", Check.asked(first, first.flattery()), "1: 1 0 1");
        Sentence.of(23, "-2: fewer than two of PEOPLE");
        DeadTillSix one = Check.town("0000000");
        one.fits();
        Check.due("one", Check.asked(one, one.flattery()), "-2: 1");
        Check.due("none", new DeadTillSix().flattery(), -2);
        Check.due("two", Check.town(people(2)).flattery(), 4);
    }

    private static void wakes() {
        Sentence.of(24, "The one who is DEAD that lives the soonest, nothing being done: of equal ones the first: it; "
                + "the ROW: in how many HOURS (1 .. 9), its HONOUR then");
        for (int dead = 1; dead <= 9; dead++) {
            DeadTillSix x = Check.town(people(3));
            Check.rule(x, "1");
            x.dies(2, dead);
            Check.due("one for " + dead, Check.asked(x, x.wakes()), "2: " + dead + " " + 2 * dead);
            x.dies(1, dead);
            Check.due("two for " + dead, Check.asked(x, x.wakes()), "1: " + dead + " " + dead);
            x.dies(0, 9);
            Check.due("nobody speaks", Check.asked(x, x.wakes()), (dead == 9 ? 0 : 1) + ": " + dead + " 0");
        }
        Sentence.of(24, "-2: nobody is DEAD");
        DeadTillSix y = Check.town(people(2));
        y.fits();
        Check.due("nobody", Check.asked(y, y.wakes()), "-2: 2");
        Check.afternoon(y, "d11h1");
        Check.due("nobody any more", y.wakes(), -2);
        y.dies(0, 1);
        y.coughs(0);
        Check.due("nobody, by a cough", y.wakes(), -2);
        Check.due("no people", new DeadTillSix().wakes(), -2);
    }

    private static void echo() {
        Sentence.of(25, "PEOPLE who HEARD one (bits); the ROW: how many, whom it HEARD of these (bits)");
        DeadTillSix x = Check.town(SIX);
        Check.due("nobody", Check.asked(x, x.echo(5)), "0: 0 0");
        for (int i = 0; i < 6; i++) {
            x.dies(i, 1);
            x.hours(1);
        }
        for (int i = 0; i < 6; i++) {
            int others = 63 - (1 << i);
            Check.due("all others", Check.asked(x, x.echo(i)), others + ": 5 " + others);
        }
        DeadTillSix one = Check.town("0000000;0000000;0000000");
        one.dies(0, 1);
        one.hours(1);
        Check.due("one who heard nobody itself", Check.asked(one, one.echo(2)), "1: 1 0");
        Check.due("one whom nobody heard", Check.asked(one, one.echo(0)), "0: 0 0");
        Sentence.of(25, "NONE: none such.");
        for (int none : NONE_SUCH) {
            Check.dueAndNothing("echo(" + none + ")", y -> y.echo(none), -1);
        }
    }
}
