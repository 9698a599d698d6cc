/** Promises 9 to 15: hours, deaths, coughs, loans, payments, afternoons, and undoing them. */
public final class AfternoonTest {
    static final String THREE = PeopleTest.THREE;
    static final String SIX = "9999990;9999990;9999990;9999990;9999990;9999990";

    public static void main(String[] args) {
        hoursThatPass();
        allAsAheadOfTheHour();
        looksRound();
        limitsOfHours();
        deaths();
        coughing();
        loans();
        payments();
        afternoonsDone();
        afternoonsThatCannot();
        undoing();
        undoingOfTwelve();
        forgotten();
        Check.close();
    }

    private static void hoursThatPass() {
        DeadTillSix x = Check.town(THREE);
        Check.due("9: hours without the dead", x.hours(3), 0);
        Check.due("9: their row", Check.row(x), "0 0");
        Check.due("9: hour", x.count(1), 3);
        x.dies(0, 2);
        x.dies(1, 3);
        // Of 0, who is dead, 2 says 9; of 1 it says 2; the dead say nothing.
        Check.due("9: an hour", x.hours(1), 2);
        Check.due("9: its row", Check.row(x), "11 0");
        Check.due("9: another one", x.hours(1), 1);
        Check.due("9: its row", Check.row(x), "11 1");
        // Now 0 lives: it says 7 of 1, and 2 says 2.
        Check.due("9: sixty", x.hours(60), 0);
        Check.due("9: their row", Check.row(x), "9 1");
        Check.due("9: honour of 0", x.person(0, 1), 18);
        Check.due("9: honour of 1", x.person(1, 1), 13);
        Check.due("9: hour", x.count(1), 65);
        int undo = x.count(10);
        x.said(0);
        String row = Check.row(x);
        Check.due("9: n of 61", x.hours(61), -1);
        Check.due("9: n below 0", x.hours(-1), -1);
        Check.due("9: the row is as it was", Check.row(x), row);
        Check.due("9: hour", x.count(1), 65);
        Check.due("9: no hours", x.hours(0), 0);
        Check.due("9: their row", Check.row(x), "0 0");
        Check.due("9: they can't be undone", x.count(10), undo);
    }

    private static void allAsAheadOfTheHour() {
        // n is the hour ahead of it: 0 and 1 are said in two hours by each of two.
        DeadTillSix x = Check.town(THREE);
        Check.rule(x, "n");
        x.dies(0, 9);
        x.hours(2);
        Check.due("9: n", x.person(0, 1), 2);
        // e is the debt ahead of it: 1 owes 2, which grows while both live; then not, since one of them is dead.
        DeadTillSix y = Check.town(THREE);
        Check.rule(y, "e");
        y.lends(0, 1, 1);
        y.lends(0, 2, 1);
        y.lends(2, 1, 1);
        y.dies(0, 2);
        y.hours(1);
        Check.due("9: debts of the dead rest", y.between(1, 0, 2), 1);
        Check.due("9: debts of the living grow", y.between(1, 2, 2), 2);
        Check.due("9: words by debts", y.person(0, 1), 2);
        y.hours(1);
        Check.due("9: in the hour in which one comes to live they rest, too", y.between(1, 0, 2), 1);
        y.hours(1);
        Check.due("9: then they grow", y.between(1, 0, 2), 2);
    }

    private static void looksRound() {
        // 0 hears 1 say 5 and 2 say 9 of it, and thought 7 and 3 of them.
        DeadTillSix x = Check.town(THREE);
        x.dies(0, 2);
        x.hours(1);
        Check.due("9: heard", x.person(0, 4), 6);
        Check.due("9: not yet", x.between(0, 1, 0), 7);
        x.hours(1);
        Check.due("9: 1 less", x.between(0, 1, 0), 6);
        Check.due("9: 1 more", x.between(0, 2, 0), 4);
        Check.due("9: others do not", x.between(1, 0, 0), 5);
        Check.due("9: heard is kept", x.person(0, 4), 6);
        // In one hour: 0 hears 2 only, since 1 is dead, too.
        DeadTillSix y = Check.town(THREE);
        y.dies(0, 1);
        y.dies(1, 1);
        y.hours(1);
        Check.due("9: whom it did not hear", y.between(0, 1, 0), 7);
        Check.due("9: whom it heard in this hour", y.between(0, 2, 0), 4);
        Check.due("9: what is the same stays", y.between(1, 2, 0), 3);
        // One heard before who is dead when it looks round counts, with words of that hour.
        DeadTillSix z = Check.town(THREE);
        z.dies(0, 2);
        z.hours(1);
        z.dies(1, 9);
        z.hours(1);
        Check.due("9: one who was heard before", z.between(0, 1, 0), 6);
        // As all is ahead of this hour: 1 said nothing in the hour 0, and says 1 in the hour 1, in which it is dead.
        DeadTillSix v = Check.town("0000000;5000000;0000000");
        Check.rule(v, "n");
        v.dies(0, 2);
        v.hours(1);
        v.dies(1, 9);
        v.hours(1);
        Check.due("9: by words of this hour", v.between(0, 1, 0), 1);
        v.hours(8);
        // In the hour 9, in which 1 comes to live, 0 says 9 of it.
        Check.due("9: of the first one", v.between(1, 0, 0), 6);
        // The same opinion and words: nothing changes.
        DeadTillSix w = Check.town("0900000;9000000");
        w.dies(0, 1);
        w.hours(1);
        Check.due("9: alike", w.between(0, 1, 0), 9);
    }

    private static void limitsOfHours() {
        DeadTillSix x = Check.town(SIX);
        for (int i = 0; i < 3; i++) {
            Check.due("9: twelve deaths of nine hours", Check.afternoon(x, "d09h9".repeat(12)), 24);
        }
        Check.due("9: honour of 9999 at most", x.person(0, 1), 9999);
        x.dies(0, 9);
        Check.due("9: hours at the limit", x.hours(5), 1);
        Check.due("9: their row", Check.row(x), "0 0");
        Check.due("14: the row tells all honour", Check.afternoon(x, "h1") + " " + Check.row(x), "1 0 9999");
        x.coughs(0);
        Check.due("11: half of it, cut", x.person(0, 1), 4999);
        DeadTillSix y = Check.town(THREE);
        y.sheet(2, 3, 99, -49);
        y.lends(0, 2, 90);
        y.hours(60);
        Check.due("9: debt of 99 at most", y.between(2, 0, 2), 99);
        Check.due("9: that was 9 hours", y.owes(2, 0, 99), 99);
    }

    private static void deaths() {
        DeadTillSix x = Check.town(THREE);
        Check.due("10: one dies", x.dies(0, 9), 1);
        Check.due("10: it is dead for nine", x.person(0, 3), 9);
        Check.due("10: once", x.person(0, 2), 1);
        Check.due("10: again", x.dies(0, 1), -2);
        Check.due("10: another one", x.dies(2, 1), 2);
        Check.due("10: for no hours", x.dies(1, 0), -1);
        Check.due("10: for ten", x.dies(1, 10), -1);
        Check.due("10: none such", x.dies(3, 1), -1);
        Check.due("10: none below 0", x.dies(-1, 1), -1);
        Check.due("10: two can be undone", x.count(10), 2);
        Check.due("10: the dead", x.count(2), 5);
        // Whom it heard in an earlier death is forgotten with a new one.
        DeadTillSix y = Check.town(THREE);
        Check.afternoon(y, "d01h1");
        Check.due("10: heard", y.person(0, 4), 6);
        y.dies(0, 1);
        Check.due("10: heard none", y.person(0, 4), 0);
        DeadTillSix z = Check.town(THREE);
        for (int i = 0; i < 9; i++) {
            Check.afternoon(z, "d01c0".repeat(12));
        }
        Check.due("10: times of 99 at most", z.person(0, 2), 99);
    }

    private static void coughing() {
        DeadTillSix x = Check.town(THREE);
        x.dies(0, 5);
        x.hours(2);
        Check.due("11: honour", x.person(0, 1), 28);
        x.hours(1);
        Check.due("11: a cough", x.coughs(0), 21);
        Check.due("11: it lives", x.person(0, 3), 0);
        Check.due("11: it does not look round", x.between(0, 1, 0) + " " + x.between(0, 2, 0), "7 3");
        Check.due("11: whom it heard", x.person(0, 4), 6);
        Check.due("11: one who lives", x.coughs(0), -2);
        Check.due("11: none such", x.coughs(3), -1);
        Check.due("11: none below 0", x.coughs(-1), -1);
        Check.due("11: what can be undone", x.count(10), 4);
    }

    private static void loans() {
        DeadTillSix x = Check.town(THREE);
        Check.due("12: a loan", x.lends(0, 1, 5), 5);
        Check.due("12: another one", x.lends(0, 1, 4), 9);
        Check.due("12: all of it", Check.seen(x),
                "hour 0; 0 0 0 0 0 0 9 - 7/0 3/0 ; 13 0 0 0 0 9 0 5/9 - 4/0 ; 1 0 0 0 0 0 0 9/0 2/0 - ");
        Check.due("12: no cash", x.lends(0, 1, 1), -2);
        Check.due("12: nothing", x.lends(1, 0, 0), -1);
        Check.due("12: too much", x.lends(1, 0, 100), -1);
        Check.due("12: to itself", x.lends(1, 1, 1), -1);
        Check.due("12: none such", x.lends(1, 3, 1), -1);
        Check.due("12: by none such", x.lends(-1, 0, 1), -1);
        x.sheet(2, 3, 60, 0);
        Check.due("12: too much cash", x.lends(0, 1, 40), -3);
        Check.due("12: just so much", x.lends(0, 1, 39), 48);
        x.sheet(2, 3, 52, -20);
        Check.due("12: too much debt", x.lends(0, 1, 52), -3);
        Check.due("12: just so much debt", x.lends(0, 1, 51), 99);
        x.sheet(2, 1, 99, 0);
        Check.due("12: debt is full", x.lends(0, 1, 1), -3);
        Check.due("12: no cash goes first", x.lends(1, 0, 99), -2);
        x.dies(1, 1);
        Check.due("12: to one who is dead", x.lends(0, 1, 1), -4);
        Check.due("12: by one who is dead, without cash", x.lends(1, 0, 99), -4);
        Check.due("12: five things were done", x.count(10), 5);
    }

    private static void payments() {
        DeadTillSix x = Check.town(THREE);
        x.lends(0, 1, 5);
        Check.due("13: a payment", x.pays(1, 0, 2), 3);
        Check.due("13: all of it", Check.seen(x),
                "hour 0; 6 0 0 0 0 0 3 - 7/0 3/0 ; 7 0 0 0 0 3 0 5/3 - 4/0 ; 1 0 0 0 0 0 0 9/0 2/0 - ");
        Check.due("13: more than the debt", x.pays(1, 0, 4), -3);
        Check.due("13: more than the cash", x.pays(1, 0, 8), -2);
        Check.due("13: no debt", x.pays(0, 1, 1), -3);
        Check.due("13: nothing", x.pays(1, 0, 0), -1);
        Check.due("13: too much", x.pays(1, 0, 100), -1);
        Check.due("13: to itself", x.pays(1, 1, 1), -1);
        Check.due("13: none such", x.pays(3, 0, 1), -1);
        x.sheet(2, 2, 99, -90);
        Check.due("13: the other one has too much", x.pays(1, 0, 1), -3);
        x.sheet(2, 2, 98, -90);
        Check.due("13: just so much", x.pays(1, 0, 1), 2);
        x.sheet(2, 2, 9, 0);
        Check.due("13: the rest", x.pays(1, 0, 2), 0);
        x.sheet(2, 3, 9, -9);
        x.lends(0, 2, 9);
        Check.due("13: all that one has", x.pays(2, 0, 9), 0);
        x.dies(0, 1);
        Check.due("13: to one who is dead", x.pays(1, 0, 99), -4);
        Check.due("13: by one who is dead", x.pays(0, 1, 1), -4);
        Check.due("13: what can be undone", x.count(10), 7);
    }

    private static void afternoonsDone() {
        DeadTillSix x = Check.town(THREE);
        Check.due("14: an empty one", Check.afternoon(x, ""), 0);
        Check.due("14: its row", Check.row(x), "0 0");
        Check.due("14: all kinds", Check.afternoon(x, "l015p013d02h1c0h0"), 1);
        // 1 owes 0, not the other way round, so the payment could not be.
        Check.due("14: its row", Check.row(x), "1 0");
        Check.due("14: all kinds", Check.afternoon(x, "p103d02h1c0h0h9"), 6);
        Check.due("14: its row", Check.row(x), "0 7");
        Check.due("14: debt", x.between(1, 0, 2), 2 + 9);
        Check.due("14: hour", x.count(1), 10);
        Check.due("14: none such", Check.afternoon(x, "h1d91h1"), 1);
        Check.due("14: its row", Check.row(x), "1 7");
        Check.due("14: the first can't be", Check.afternoon(x, "c0h9"), 0);
        Check.due("14: its row", Check.row(x), "1 7");
        Check.due("14: what was not done", x.count(1), 11);
        Check.due("14: what can be undone", x.count(10), 3);
        Check.due("14: thirty", Check.afternoon(x, "h0".repeat(30)), 30);
        Check.due("14: as one", x.count(10), 4);
        Check.due("14: the text is emptied", x.count(12), 0);
        Check.due("14: without people", Check.afternoon(new DeadTillSix(), "h5h4"), 2);
        Check.due("14: no one can die", Check.afternoon(new DeadTillSix(), "d01"), 0);
    }

    private static void afternoonsThatCannot() {
        DeadTillSix x = Check.town(THREE);
        x.said(0);
        String row = Check.row(x);
        String sixty = "h1".repeat(30);
        String[] texts = {"x", "h", "d0", "d00", "c", "l01", "l010", "p0", "h11", "hx", "h1 h1", "h1;h1", "d0x", "dx1", "l0x1",
            "lx01", "p011x", "H1", sixty + "h", sixty + "x", sixty.substring(0, 59), sixty.substring(0, 58) + "d0",
            sixty.substring(0, 58) + "d01", sixty.substring(0, 58) + "dx1", "h1".repeat(29) + "d" + "11h1", "d09c", "h" + (char) 185};
        int[] places = {0, 1, 2, 2, 1, 3, 3, 2, 2, 1, 2, 2, 2, 1, 2,
            1, 4, 0, 60, 60, 59, 60,
            60, 59, 60, 4, 1};
        for (int i = 0; i < texts.length; i++) {
            Check.due("14: afternoon() of " + texts[i], Check.afternoon(x, texts[i]), -1 - places[i]);
            Check.due("14: the text is emptied", x.count(12), 0);
        }
        Check.due("14: nothing is done", x.count(1) + " " + x.count(10), "0 0");
        Check.due("14: the row is as it was", Check.row(x), row);
        Check.due("14: sixty signs", Check.afternoon(x, sixty), 30);
    }

    private static void undoing() {
        DeadTillSix x = Check.town(THREE);
        Check.due("15: nothing", x.undo(), -1);
        String[] seen = new String[8];
        seen[0] = Check.seen(x);
        x.lends(0, 1, 5);
        seen[1] = Check.seen(x);
        x.dies(0, 3);
        seen[2] = Check.seen(x);
        x.hours(2);
        seen[3] = Check.seen(x);
        x.coughs(0);
        seen[4] = Check.seen(x);
        x.pays(1, 0, 2);
        seen[5] = Check.seen(x);
        Check.afternoon(x, "d02d12h2l01");
        Check.afternoon(x, "d02d12h2l012x");
        Check.afternoon(x, "d02d12h2l012");
        x.hours(0);
        x.hours(99);
        x.dies(0, 0);
        x.coughs(0);
        Check.afternoon(x, "c0h9");
        Check.due("15: what is left", x.count(10), 6);
        Check.rule(x, "3");
        for (int i = 5; i >= 0; i--) {
            Check.due("15: undo()", x.undo(), i);
            Check.due("15: it is as it was", Check.seen(x), seen[i]);
        }
        Check.due("15: no more", x.undo(), -1);
        Check.due("15: the rule stays", x.between(0, 1, 1), 3);
        // CASH by a sheet is no act, but what is undone brings CASH back as it was.
        x.lends(0, 1, 5);
        x.sheet(2, 3, 50, 0);
        x.undo();
        Check.due("15: cash", x.person(0, 0), 9);
    }

    private static void undoingOfTwelve() {
        DeadTillSix x = Check.town(THREE);
        for (int i = 1; i <= 20; i++) {
            x.hours(1);
            Check.due("15: at most twelve", x.count(10), Math.min(i, 12));
        }
        Check.due("15: one that can't be", x.dies(3, 1), -1);
        Check.due("15: as a refused one", x.coughs(0), -2);
        for (int i = 11; i >= 0; i--) {
            Check.due("15: undo()", x.undo(), i);
            Check.due("15: hour", x.count(1), 8 + i);
        }
        Check.due("15: no more", x.undo(), -1);
        Check.due("15: hour", x.count(1), 8);
        x.hours(3);
        Check.due("15: one more", x.undo(), 0);
        Check.due("15: hour", x.count(1), 8);
    }

    private static void forgotten() {
        DeadTillSix x = Check.town(THREE);
        x.hours(1);
        x.people();
        Check.due("15: an empty people()", x.count(10), 1);
        Check.people(x, "x");
        Check.due("15: a refused people()", x.count(10), 1);
        x.again(0);
        Check.due("15: a refused again()", x.count(10), 1);
        x.keep(0);
        Check.due("15: keep()", x.count(10), 1);
        Check.people(x, "0000000");
        Check.due("15: people()", x.undo(), -1);
        x.keep(0);
        x.hours(1);
        x.again(0);
        Check.due("15: again()", x.undo(), -1);
    }
}
