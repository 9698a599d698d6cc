/** Promises 16 to 25: what is said, honours later, deaths that are worth it, and who has heard whom. */
public final class SayingTest {
    static final String THREE = PeopleTest.THREE;

    public static void main(String[] args) {
        saying();
        honoursLater();
        theMostHonoured();
        howLong();
        whoTogether();
        whoseDeath();
        thinking();
        flattering();
        waking();
        echoes();
        questionsChangeNothing();
        Check.close();
    }

    private static void saying() {
        DeadTillSix x = Check.town(THREE);
        Check.due("16: of 0", Check.asked(x, x.said(0)), "16: 7 9");
        Check.due("16: of 1", Check.asked(x, x.said(1)), "13: 8 5");
        Check.due("16: of 2", Check.asked(x, x.said(2)), "12: 6 6");
        x.dies(1, 1);
        Check.due("16: the dead say nothing", Check.asked(x, x.said(0)), "9: 9");
        Check.due("16: of the dead", Check.asked(x, x.said(1)), "9: 7 2");
        Check.due("16: of none such", Check.asked(x, x.said(3)), "-1: 7 2");
        Check.due("16: of none below 0", x.said(-1), -1);
        x.dies(0, 1);
        x.dies(2, 1);
        Check.due("16: nobody speaks", Check.asked(x, x.said(0)), "0: ");
        Check.due("16: of one alone", Check.town("0000000").said(0), 0);
    }

    private static void honoursLater() {
        DeadTillSix x = Check.town(THREE);
        x.dies(0, 2);
        x.dies(1, 9);
        Check.due("17: now", Check.asked(x, x.later(0, 0)), "0: 0 0 0");
        Check.due("17: in an hour", Check.asked(x, x.later(0, 1)), "9: 9 2 0");
        Check.due("17: of another one", Check.asked(x, x.later(1, 2)), "4: 18 4 0");
        Check.due("17: when 0 speaks again", Check.asked(x, x.later(1, 3)), "13: 18 13 0");
        Check.due("17: much later", Check.asked(x, x.later(2, 99)), "0: 18 67 0");
        Check.due("17: too late", x.later(0, 100), -1);
        Check.due("17: too early", x.later(0, -1), -1);
        Check.due("17: none such", x.later(3, 1), -1);
        Check.due("17: none such below 0", Check.asked(x, x.later(-1, 1)), "-1: 18 67 0");
        Check.due("17: it is now", x.count(1), 0);
    }

    private static void theMostHonoured() {
        DeadTillSix x = Check.town(THREE);
        Check.due("18: all alike", Check.asked(x, x.most(0)), "0: 0 0");
        x.dies(1, 1);
        Check.due("18: one later", Check.asked(x, x.most(1)), "1: 9 0");
        x.dies(0, 1);
        // 2 says 9 of 0 and 2 of 1.
        Check.due("18: two of them", Check.asked(x, x.most(99)), "0: 9 2");
        Check.due("18: too late", x.most(100), -1);
        Check.due("18: too early", x.most(-1), -1);
        Check.due("18: nobody", new DeadTillSix().most(5), -2);
        DeadTillSix y = Check.town("0000000;5000000;5500000");
        y.dies(0, 1);
        y.dies(1, 2);
        // 0 hears 5 from 2; 1 hears 5 from 2, and 0 of 0 in its second hour, and 5 of 2 again.
        Check.due("18: of equal ones the first", Check.asked(y, y.most(1)), "0: 5 2");
        Check.due("18: then another one", Check.asked(y, y.most(2)), "1: 10 2");
    }

    private static void howLong() {
        DeadTillSix x = Check.town(THREE);
        // 1 and 2 say 5 and 9 of 0, when it is dead.
        Check.due("19: as long as can be", Check.asked(x, x.longest(0)), "9: 126 0");
        Check.rule(x, "n<3");
        // In the hours 0, 1, 2 each of both says 1.
        Check.due("19: of equal ones the least", Check.asked(x, x.longest(0)), "3: 6 0");
        Check.rule(x, "0");
        Check.due("19: of no use", Check.asked(x, x.longest(0)), "1: 0 0");
        x.dies(0, 1);
        x.hours(1);
        Check.rule(x, "");
        // As they think of it: 5 and 9.
        Check.due("19: once more", Check.asked(x, x.longest(0)), "9: 126 0");
        x.dies(0, 2);
        Check.due("19: one who is dead", Check.asked(x, x.longest(0)), "-2: 126 0");
        Check.due("19: none such", x.longest(3), -1);
        x.hours(2);
        Check.due("19: honour that it has counts", Check.asked(x, x.longest(0)), "9: 154 28");
    }

    private static void whoTogether() {
        DeadTillSix x = Check.town(THREE);
        // Of 0 is said 5 and 9, of 1 7 and 2, of 2 3 and 4: 0 alone 14, 1 alone 9, 0 and 1 9 + 2, 2 alone 7.
        Check.due("20: one", Check.asked(x, x.together(1)), "14: 1");
        Check.due("20: for nine hours", Check.asked(x, x.together(9)), "126: 1");
        DeadTillSix y = Check.town("0900000;9000000;9900000");
        // 2 says 9 of both; 0 and 1 say 9 of each other and 0 of 2.
        Check.due("20: the least of as good ones", Check.asked(y, y.together(2)), "36: 1");
        Check.rule(y, "0");
        Check.due("20: nobody", Check.asked(y, y.together(2)), "0: 0");
        Check.rule(y, "");
        y.dies(0, 1);
        y.dies(1, 9);
        // 0 hears 2 in one hour; 1 hears 2 in both hours and 0 in the second one.
        Check.due("20: those who are dead already", Check.asked(y, y.together(2)), "36: 0");
        Check.due("20: for no hours", y.together(0), -1);
        Check.due("20: for ten", y.together(10), -1);
        DeadTillSix z = new DeadTillSix();
        Check.due("20: without people", Check.asked(z, z.together(3)), "0: 0");
    }

    private static void whoseDeath() {
        DeadTillSix x = Check.town(THREE);
        Check.due("21: of no use", Check.asked(x, x.heir(0, 3)), "1: 1009 1009");
        x.lends(0, 1, 5);
        // 1 owes 0: its debt rests when 0 is dead. 9 less 5, and 3 more in three hours.
        Check.due("21: of a debtor", Check.asked(x, x.heir(1, 3)), "0: 1004 1001");
        Check.due("21: of a creditor", Check.asked(x, x.heir(0, 3)), "2: 1012 1012");
        x.lends(2, 0, 1);
        // 0 has 5 and is owed 5, and owes 1 to 2: if 2 dies, that rests.
        Check.due("21: the other way", Check.asked(x, x.heir(0, 3)), "2: 1012 1009");
        x.dies(2, 5);
        Check.due("21: those who live alone", Check.asked(x, x.heir(0, 3)), "1: 1009 1012");
        x.dies(0, 5);
        Check.due("21: of one who is dead", Check.asked(x, x.heir(0, 3)), "1: 1009 1009");
        x.dies(1, 5);
        Check.due("21: nobody", Check.asked(x, x.heir(0, 3)), "-2: 1009 1009");
        Check.due("21: for no hours", x.heir(0, 0), -1);
        Check.due("21: for ten", x.heir(0, 10), -1);
        Check.due("21: none such", x.heir(3, 1), -1);
        Check.due("21: alone", Check.town("0000000").heir(0, 1), -2);
    }

    private static void thinking() {
        DeadTillSix x = Check.town(THREE);
        Check.due("22: nothing changes", Check.asked(x, x.thinks(0, 1, 99)), "7: 0");
        x.dies(0, 2);
        Check.due("22: not yet", Check.asked(x, x.thinks(0, 1, 1)), "7: 0");
        Check.due("22: then", Check.asked(x, x.thinks(0, 1, 2)), "6: 1");
        Check.due("22: of the other one", Check.asked(x, x.thinks(0, 2, 50)), "4: 1");
        Check.due("22: now", Check.asked(x, x.thinks(0, 2, 0)), "3: 0");
        Check.due("22: like ones", x.thinks(0, 0, 1), -1);
        Check.due("22: none such", x.thinks(0, 3, 1), -1);
        Check.due("22: by none such", x.thinks(-1, 0, 1), -1);
        Check.due("22: too late", x.thinks(0, 1, 100), -1);
        Check.due("22: too early", Check.asked(x, x.thinks(0, 1, -1)), "-1: 0");
    }

    private static void flattering() {
        DeadTillSix x = Check.town(THREE);
        // 7 and 8, 3 and 6, 5 and 7, 4 and 6, 9 and 9, 2 and 5.
        Check.due("23: the least row", Check.asked(x, x.flattery()), "3: 0 2 1");
        x.dies(2, 1);
        Check.due("23: of the dead as one thinks", Check.asked(x, x.flattery()), "3: 2 1 1");
        Check.rule(x, "2");
        Check.due("23: words are less", Check.asked(x, x.flattery()), "7: 2 0 0");
        Check.rule(x, "o");
        Check.due("23: no difference", Check.asked(x, x.flattery()), "0: 0 1 0");
        DeadTillSix two = Check.town("0900000;8000000");
        Check.due("23: two, by 1 and 0", Check.asked(two, two.flattery()), "0: 0 1 0");
        Check.rule(two, "9");
        Check.due("23: words are 1 more", Check.asked(two, two.flattery()), "1: 1 0 1");
        DeadTillSix y = Check.town("0000000");
        y.said(0);
        Check.due("23: one alone", Check.asked(y, y.flattery()), "-2: ");
        Check.due("23: nobody", new DeadTillSix().flattery(), -2);
    }

    private static void waking() {
        DeadTillSix x = Check.town(THREE);
        x.said(0);
        Check.due("24: nobody is dead", Check.asked(x, x.wakes()), "-2: 7 9");
        x.dies(0, 3);
        Check.due("24: one", Check.asked(x, x.wakes()), "0: 3 42");
        x.dies(2, 2);
        // 0 and 1 say 3 and 4 of 2, but 0 is dead.
        Check.due("24: the soonest", Check.asked(x, x.wakes()), "2: 2 8");
        x.dies(1, 2);
        Check.due("24: the first", Check.asked(x, x.wakes()), "1: 2 0");
    }

    private static void echoes() {
        DeadTillSix x = Check.town(THREE);
        Check.due("25: nobody", Check.asked(x, x.echo(0)), "0: 0 0");
        Check.afternoon(x, "d01h1d11h1");
        // 0 heard 1 and 2, then 1 heard 0 and 2.
        Check.due("25: of 0", Check.asked(x, x.echo(0)), "2: 1 2");
        Check.due("25: of 1", Check.asked(x, x.echo(1)), "1: 1 1");
        Check.due("25: of 2", Check.asked(x, x.echo(2)), "3: 2 0");
        x.dies(0, 1);
        Check.due("25: a new death forgets", Check.asked(x, x.echo(2)), "2: 1 0");
        Check.due("25: none such", Check.asked(x, x.echo(3)), "-1: 1 0");
        Check.due("25: none such below 0", x.echo(-1), -1);
    }

    private static void questionsChangeNothing() {
        DeadTillSix x = Check.town("0730009;5040004;9200001;1234567");
        Check.afternoon(x, "l012d02h1d12l231");
        String seen = Check.seen(x);
        int undo = x.count(10);
        for (int i = 0; i < 4; i++) {
            x.said(i);
            x.later(i, 50);
            x.longest(i);
            x.heir(i, 5);
            x.echo(i);
            for (int j = 0; j < 4; j++) {
                x.thinks(i, j, 20);
                x.owes(i, j, 20);
            }
        }
        x.most(9);
        x.together(9);
        x.flattery();
        x.wakes();
        x.settles();
        x.groups();
        Check.streets(x, "0123");
        x.fits();
        x.asks();
        x.laws();
        x.tries();
        x.bank(50, 5);
        x.quiet(2, 5);
        x.rests(9, 2);
        Check.law(x, "9");
        x.years(77, 60);
        Check.due("2 of the terms: questions change nothing", Check.seen(x), seen);
        Check.due("2 of the terms: nor what can be undone", x.count(10), undo);
    }
}
