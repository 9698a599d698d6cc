/** Promises 26 to 29: debts later, the fewest payments, groups that are even, and streets. */
public final class DebtTest {
    static final String THREE = PeopleTest.THREE;
    static final String SIX = "0000009;0000009;0000009;0000009;0000009;0000009";

    public static void main(String[] args) {
        debtsLater();
        settling();
        grouping();
        streetsNamed();
        streetsThatCannot();
        Check.close();
    }

    private static void debtsLater() {
        DeadTillSix x = Check.town(THREE);
        x.lends(0, 1, 5);
        Check.due("26: now", Check.asked(x, x.owes(1, 0, 0)), "5: 0");
        Check.due("26: later", Check.asked(x, x.owes(1, 0, 7)), "12: 7");
        Check.due("26: none does not grow", Check.asked(x, x.owes(0, 1, 99)), "0: 0");
        Check.due("26: 99 at most", Check.asked(x, x.owes(1, 0, 99)), "99: 94");
        x.dies(1, 3);
        Check.due("26: it rests for three hours", Check.asked(x, x.owes(1, 0, 5)), "7: 2");
        x.dies(0, 4);
        Check.due("26: or four", Check.asked(x, x.owes(1, 0, 5)), "6: 1");
        Check.due("26: like ones", x.owes(0, 0, 1), -1);
        Check.due("26: none such", x.owes(0, 3, 1), -1);
        Check.due("26: by none such", x.owes(-1, 0, 1), -1);
        Check.due("26: too late", x.owes(1, 0, 100), -1);
        Check.due("26: too early", Check.asked(x, x.owes(1, 0, -1)), "-1: 1");
    }

    private static void settling() {
        DeadTillSix x = Check.town(SIX);
        Check.due("27: nothing", Check.asked(x, x.settles()), "0: 1000 1000 1000 1000 1000 1000");
        x.lends(0, 1, 3);
        x.lends(1, 2, 3);
        x.lends(2, 3, 3);
        Check.due("27: in a chain", Check.asked(x, x.settles()), "1: 1003 1000 1000 997 1000 1000");
        x.lends(3, 0, 3);
        Check.due("27: in a ring", Check.asked(x, x.settles()), "0: 1000 1000 1000 1000 1000 1000");
        x.undo();
        x.lends(4, 5, 1);
        x.lends(4, 2, 2);
        // 3, 0, -2, -3, 3, -1: 0 and 3, then 2 and 5 with 4.
        Check.due("27: two groups of them", Check.asked(x, x.settles()), "3: 1003 1000 998 997 1003 999");
        DeadTillSix y = Check.town(SIX);
        y.lends(0, 1, 1);
        y.lends(0, 2, 2);
        y.lends(0, 3, 4);
        Check.due("27: by each of three", Check.asked(y, y.settles()), "3: 1007 999 998 996 1000 1000");
        y.dies(0, 9);
        Check.due("27: the dead, too", Check.asked(y, y.settles()), "3: 1007 999 998 996 1000 1000");
        DeadTillSix z = new DeadTillSix();
        z.fits();
        Check.due("27: without people", Check.asked(z, z.settles()), "0: ");
    }

    private static void grouping() {
        DeadTillSix x = Check.town(SIX);
        Check.due("28: each for itself", Check.asked(x, x.groups()), "6: 1");
        x.lends(0, 3, 2);
        Check.due("28: two together", Check.asked(x, x.groups()), "5: 9");
        x.lends(1, 2, 2);
        // 2, 2, -2, -2: the first one with 2 or with 3.
        Check.due("28: of as many the least", Check.asked(x, x.groups()), "4: 5");
        x.lends(4, 5, 2);
        Check.due("28: three pairs", Check.asked(x, x.groups()), "3: 5");
        DeadTillSix y = Check.town(SIX);
        y.lends(3, 0, 3);
        y.lends(1, 2, 1);
        y.lends(4, 5, 2);
        // -3, 1, -1, 3, 2, -2: the first one with 1 and 4 would leave fewer groups.
        Check.due("28: the most groups first", Check.asked(y, y.groups()), "3: 9");
        DeadTillSix z = new DeadTillSix();
        z.fits();
        Check.due("28: without people", Check.asked(z, z.groups()), "0: ");
        DeadTillSix alone = Check.town("0000000");
        Check.due("28: one alone", Check.asked(alone, alone.groups()), "1: 1");
        DeadTillSix w = Check.town(THREE);
        w.lends(0, 1, 1);
        w.lends(0, 2, 1);
        Check.due("28: all in one", Check.asked(w, w.groups()), "1: 7");
    }

    /** 0 has 28 of HONOUR, 1 has 10 and 2 has none. */
    private static DeadTillSix honoured() {
        DeadTillSix x = Check.town(THREE);
        Check.afternoon(x, "d02h2");
        Check.rule(x, "5");
        Check.afternoon(x, "d11h1");
        return x;
    }

    private static void streetsNamed() {
        DeadTillSix x = honoured();
        Check.due("29: honours", x.person(0, 1) + " " + x.person(1, 1) + " " + x.person(2, 1), "28 10 0");
        Check.due("29: one street", Check.asked(x, Check.streets(x, "0")), "1: 0");
        Check.due("29: just enough", Check.asked(x, Check.streets(x, "1")), "1: 0");
        Check.due("29: too much", Check.asked(x, Check.streets(x, "3")), "0: -1");
        Check.due("29: for another one each", Check.asked(x, Check.streets(x, "22")), "1: -1 0");
        Check.due("29: the least row of as many", Check.asked(x, Check.streets(x, "12")), "2: 1 0");
        Check.due("29: all three", Check.asked(x, Check.streets(x, "102")), "3: 1 2 0");
        Check.due("29: three again", Check.asked(x, Check.streets(x, "000")), "3: 0 1 2");
        Check.due("29: nobody first", Check.asked(x, Check.streets(x, "000000")), "3: -1 -1 -1 0 1 2");
        Check.due("29: nobody where it must be", Check.asked(x, Check.streets(x, "019")), "2: 0 1 -1");
        Check.due("29: the text is emptied", x.count(12), 0);
        DeadTillSix y = new DeadTillSix();
        Check.due("29: without people", Check.asked(y, Check.streets(y, "00")), "0: -1 -1");
    }

    private static void streetsThatCannot() {
        DeadTillSix x = honoured();
        x.said(0);
        String row = Check.row(x);
        String[] texts = {"", "x", "1x", "0000000", "000000x", "00000x0", "0000000000", "1;", "-1", "" + (char) 0x3a};
        int[] places = {0, 0, 1, 6, 6, 5, 6, 1, 0, 0};
        for (int i = 0; i < texts.length; i++) {
            Check.due("29: streets() of " + texts[i], Check.streets(x, texts[i]), -1 - places[i]);
            Check.due("29: the text is emptied", x.count(12), 0);
        }
        Check.due("29: the row is as it was", Check.row(x), row);
    }
}
