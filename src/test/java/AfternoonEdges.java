/** Boundary cases of promises 9 to 15. */
final class AfternoonEdges {
    private static final int[] FAR = {Integer.MAX_VALUE, Integer.MIN_VALUE};
    private static final String TWO = "0000009;0000009";

    private AfternoonEdges() {
    }

    static void all() {
        hours();
        dies();
        coughs();
        lends();
        lendsRefused();
        pays();
        paysRefused();
        emptyAfternoon();
        acts();
        actsThatCannotBe();
        wrongSignOfAfternoon();
        afternoonTooLong();
        undo();
        undoOfEach();
        twelve();
        undoForgotten();
    }

    private static void hours() {
        Sentence.of(9, "n HOURS (0 .. 60)");
        DeadTillSix x = Check.town("0700000;5000000");
        x.dies(0, 9);
        int kept = x.count(10);
        Check.due("none", Check.asked(x, x.hours(0)), "1: 0 0");
        Check.due("nothing came", x.count(1) + " " + x.person(0, 3) + " " + x.person(0, 4), "0 9 0");
        Check.due("and it can't be undone", x.count(10), kept);
        Check.due("one", Check.asked(x, x.hours(1)), "1: 5 0");
        Check.due("sixty", Check.asked(x, x.hours(60)), "0: 40 1");
        Check.due("the hour", x.count(1), 61);
        Sentence.of(9, "how often one came to live in these");
        DeadTillSix y = Check.town("0000000;0000000;0000000;0000000;0000000;0000000");
        for (int i = 0; i < 6; i++) {
            y.dies(i, i == 5 ? 3 : 2);
        }
        Check.due("not yet", Check.asked(y, y.hours(1)), "6: 0 0");
        Check.due("five at once", Check.asked(y, y.hours(1)), "1: 0 5");
        Check.due("the last one", Check.asked(y, y.hours(1)), "0: 0 1");
        Check.due("nobody more", Check.asked(y, y.hours(1)), "0: 0 0");
        y.coughs(0);
        y.dies(0, 5);
        y.coughs(0);
        Check.due("by a cough it is not in these", Check.asked(y, y.hours(9)), "0: 0 0");
        Sentence.of(9, "Refused: another n.");
        for (int n : new int[] {-1, 61, FAR[0], FAR[1]}) {
            Check.dueAndNothing("hours(" + n + ")", z -> z.hours(n), -1);
        }
    }

    private static void dies() {
        Sentence.of(10, "One who lives is DEAD for n hours (1 .. 9)");
        for (int n = 1; n <= 9; n++) {
            DeadTillSix x = Check.town(TWO);
            Check.due("dies(1, " + n + ")", x.dies(1, n), 1);
            Check.due("hours left", x.person(1, 3), n);
            x.hours(n - 1);
            Check.due("an hour is left", x.person(1, 3), 1);
            x.hours(1);
            Check.due("it lives", x.count(2), 0);
        }
        Sentence.of(10, "TIMES is 1 more (99 at most)");
        DeadTillSix t = Check.town(TWO);
        for (int i = 0; i < 8; i++) {
            Check.afternoon(t, "d11c1".repeat(12));
        }
        Check.due("96", t.person(1, 2), 96);
        for (int times = 97; times <= 102; times++) {
            Check.due("dies", t.dies(1, 1), 1);
            Check.due("times", t.person(1, 2), Math.min(99, times));
            t.coughs(1);
        }
        Check.due("of the other one", t.person(0, 2), 0);
        Sentence.of(10, "HEARD none: how many are DEAD then");
        DeadTillSix y = Check.town("0000000;0000000;0000000;0000000;0000000;0000000");
        for (int i = 0; i < 6; i++) {
            y.dies(i, 1);
            y.hours(1);
            Check.due("heard", y.person(i, 4), 63 - (1 << i));
        }
        for (int i = 0; i < 6; i++) {
            Check.due("dies", y.dies(i, 9), i + 1);
            Check.due("heard", y.person(i, 4), 0);
        }
        Sentence.of(10, "-2: it is DEAD");
        for (int n = 1; n <= 9; n++) {
            int asked = n;
            Check.dueAndNothing("dies(0, " + n + ")", x -> x.dies(0, asked), -2);
        }
        Sentence.of(10, "NONE: others.");
        for (int n : new int[] {0, 10, -1, FAR[0], FAR[1]}) {
            Check.dueAndNothing("dies(1, " + n + ")", x -> x.dies(1, n), -1);
        }
        for (int none : new int[] {-1, 4, 5, 6, FAR[0], FAR[1]}) {
            Check.dueAndNothing("dies(" + none + ", 1)", x -> x.dies(none, 1), -1);
        }
    }

    private static void coughs() {
        Sentence.of(11, "HONOUR is half (cut): HONOUR");
        for (int honour = 0; honour <= 9; honour++) {
            DeadTillSix x = Check.town(TWO);
            Check.rule(x, "" + honour);
            x.dies(0, 2);
            x.hours(1);
            Check.due("of " + honour, x.coughs(0), honour / 2);
            Check.due("honour", x.person(0, 1), honour / 2);
        }
        Sentence.of(11, "it lives (it does not LOOK ROUND)");
        DeadTillSix y = Check.town("0500000;0000000");
        Check.rule(y, "9");
        y.dies(0, 1);
        y.coughs(0);
        Check.due("before it heard one", y.person(0, 4) + " " + y.between(0, 1, 0) + " " + y.count(2), "0 5 0");
        y.dies(0, 2);
        y.hours(1);
        y.coughs(0);
        Check.due("when it heard one", y.person(0, 4) + " " + y.between(0, 1, 0) + " " + y.count(2), "2 5 0");
        y.hours(1);
        Check.due("nor later", y.between(0, 1, 0), 5);
        Sentence.of(11, "-2: it lives");
        for (int i = 1; i < 4; i++) {
            int one = i;
            Check.dueAndNothing("coughs(" + i + ")", x -> x.coughs(one), -2);
        }
        Sentence.of(11, "NONE: none such.");
        for (int none : new int[] {-1, 4, 5, 6, FAR[0], FAR[1]}) {
            Check.dueAndNothing("coughs(" + none + ")", x -> x.coughs(none), -1);
        }
    }

    /** Two of this CASH; the second owes the first so much. */
    private static DeadTillSix debtors(int debt, int first, int second) {
        DeadTillSix x = Check.town(TWO);
        for (int left = debt; left > 0; left -= 50) {
            x.sheet(2, 1, 99, 0);
            x.lends(0, 1, Math.min(50, left));
        }
        x.sheet(2, 2, first, second - first);
        return x;
    }

    private static void lends() {
        Sentence.of(12, "One lends n (1 .. 99) to another one");
        DeadTillSix x = debtors(0, 99, 0);
        Check.due("1", x.lends(0, 1, 1), 1);
        Check.due("cash", x.person(0, 0) + " " + x.person(1, 0), "98 1");
        Check.due("the debt is that one's", x.between(1, 0, 2) + " " + x.between(0, 1, 2), "1 0");
        DeadTillSix y = debtors(0, 99, 0);
        Check.due("99", y.lends(0, 1, 99), 99);
        Check.due("cash", y.person(0, 0) + " " + y.person(1, 0), "0 99");
        Sentence.of(12, "-2: CASH of the first is not so much");
        DeadTillSix z = debtors(0, 5, 5);
        Check.due("one more than it has", z.lends(0, 1, 6), -2);
        Check.due("nothing is done", z.person(0, 0) + " " + z.person(1, 0) + " " + z.count(6) + " " + z.count(10), "5 5 0 0");
        Check.due("just what it has", z.lends(0, 1, 5), 5);
        Check.due("it has nothing", z.lends(0, 1, 1), -2);
        Sentence.of(12, "-3: that one would have more than 99 CASH, or DEBT");
        DeadTillSix full = debtors(0, 50, 60);
        Check.due("100 of cash", full.lends(0, 1, 40), -3);
        Check.due("nothing is done", full.person(0, 0) + " " + full.person(1, 0) + " " + full.count(6) + " " + full.count(10),
                "50 60 0 0");
        Check.due("99 of cash", full.lends(0, 1, 39), 39);
        DeadTillSix deep = debtors(70, 99, 0);
        Check.due("100 of debt", deep.lends(0, 1, 30), -3);
        Check.due("nothing is done", deep.person(0, 0) + " " + deep.person(1, 0) + " " + deep.count(6), "99 0 70");
        Check.due("99 of debt", deep.lends(0, 1, 29), 99);
        Check.due("one more", deep.lends(0, 1, 1), -3);
        Check.due("the other way is another debt", deep.lends(1, 0, 1), 1);
    }

    private static void lendsRefused() {
        Sentence.of(12, "-4: one of both is DEAD (asked ahead of these)");
        DeadTillSix x = debtors(70, 0, 99);
        Check.due("without cash", x.lends(0, 1, 99), -2);
        x.dies(0, 1);
        Check.due("one who is dead, without cash", x.lends(0, 1, 99), -4);
        Check.due("to one who is dead", x.lends(1, 0, 1), -4);
        x.dies(1, 1);
        Check.due("both", x.lends(0, 1, 1), -4);
        DeadTillSix y = debtors(70, 99, 99);
        Check.due("too much of both", y.lends(0, 1, 99), -3);
        y.dies(1, 1);
        Check.due("too much of both, to one who is dead", y.lends(0, 1, 99), -4);
        Check.dueAndNothing("of one who is dead", z -> z.lends(0, 1, 1), -4);
        Check.dueAndNothing("to one who is dead", z -> z.lends(1, 0, 1), -4);
        Sentence.of(12, "NONE: others.");
        for (int n : new int[] {0, -1, 100, FAR[0], FAR[1]}) {
            Check.dueAndNothing("lends(1, 2, " + n + ")", z -> z.lends(1, 2, n), -1);
            Check.dueAndNothing("lends(0, 1, " + n + ") of one who is dead", z -> z.lends(0, 1, n), -1);
        }
        for (int none : new int[] {-1, 4, 5, 6, FAR[0], FAR[1]}) {
            Check.dueAndNothing("lends(1, " + none + ", 1)", z -> z.lends(1, none, 1), -1);
            Check.dueAndNothing("lends(" + none + ", 1, 1)", z -> z.lends(none, 1, 1), -1);
        }
        for (int one = 0; one < 4; one++) {
            int like = one;
            Check.dueAndNothing("lends(" + one + ", " + one + ", 1)", z -> z.lends(like, like, 1), -1);
        }
    }

    private static void pays() {
        Sentence.of(13, "One pays n (1 .. 99) of its DEBT to another one: DEBT that is left.");
        DeadTillSix x = debtors(99, 0, 99);
        Check.due("1", x.pays(1, 0, 1), 98);
        Check.due("cash", x.person(0, 0) + " " + x.person(1, 0), "1 98");
        DeadTillSix y = debtors(99, 0, 99);
        Check.due("99", y.pays(1, 0, 99), 0);
        Check.due("cash", y.person(0, 0) + " " + y.person(1, 0), "99 0");
        Check.due("debt", y.between(1, 0, 2), 0);
        Sentence.of(13, "-2: CASH is not so much");
        DeadTillSix z = debtors(50, 0, 5);
        Check.due("one more than it has", z.pays(1, 0, 6), -2);
        Check.due("nothing is done", z.person(0, 0) + " " + z.person(1, 0) + " " + z.count(6) + " " + z.count(10), "0 5 50 1");
        Check.due("just what it has", z.pays(1, 0, 5), 45);
        Check.due("it has nothing", z.pays(1, 0, 1), -2);
        Sentence.of(13, "-3: DEBT is not so much, or that one would have more than 99 CASH");
        DeadTillSix small = debtors(5, 0, 50);
        Check.due("one more than it owes", small.pays(1, 0, 6), -3);
        Check.due("nothing is done", small.person(0, 0) + " " + small.person(1, 0) + " " + small.count(6), "0 50 5");
        Check.due("just what it owes", small.pays(1, 0, 5), 0);
        Check.due("it owes nothing", small.pays(1, 0, 1), -3);
        DeadTillSix full = debtors(50, 60, 50);
        Check.due("the one who owes nothing", full.pays(0, 1, 1), -3);
        Check.due("100 of cash", full.pays(1, 0, 40), -3);
        Check.due("nothing is done", full.person(0, 0) + " " + full.person(1, 0) + " " + full.count(6), "60 50 50");
        Check.due("99 of cash", full.pays(1, 0, 39), 11);
    }

    private static void paysRefused() {
        Sentence.of(13, "-4: one of both is DEAD (asked ahead of these)");
        DeadTillSix x = debtors(50, 99, 0);
        Check.due("without cash", x.pays(1, 0, 1), -2);
        x.dies(0, 1);
        Check.due("to one who is dead, without cash", x.pays(1, 0, 1), -4);
        Check.due("by one who is dead, without debt", x.pays(0, 1, 1), -4);
        DeadTillSix y = debtors(50, 99, 50);
        Check.due("the other one has too much", y.pays(1, 0, 1), -3);
        y.dies(1, 1);
        Check.due("the other one has too much, and one is dead", y.pays(1, 0, 1), -4);
        Check.dueAndNothing("to one who is dead", z -> z.pays(1, 0, 1), -4);
        Check.dueAndNothing("by one who is dead", z -> z.pays(0, 1, 1), -4);
        Sentence.of(13, "NONE: others.");
        for (int n : new int[] {0, -1, 100, FAR[0], FAR[1]}) {
            Check.dueAndNothing("pays(1, 2, " + n + ")", z -> z.pays(1, 2, n), -1);
            Check.dueAndNothing("pays(1, 0, " + n + ") to one who is dead", z -> z.pays(1, 0, n), -1);
        }
        for (int none : new int[] {-1, 4, 5, 6, FAR[0], FAR[1]}) {
            Check.dueAndNothing("pays(1, " + none + ", 1)", z -> z.pays(1, none, 1), -1);
            Check.dueAndNothing("pays(" + none + ", 1, 1)", z -> z.pays(none, 1, 1), -1);
        }
        for (int one = 0; one < 4; one++) {
            int like = one;
            Check.dueAndNothing("pays(" + one + ", " + one + ", 1)", z -> z.pays(like, like, 1), -1);
        }
    }

    private static void emptyAfternoon() {
        Sentence.of(14, "(an empty one: nothing)");
        DeadTillSix x = Check.busy();
        x.end(0);
        int kept = x.count(10);
        int honour = x.count(4);
        Check.due("an empty one", Check.asked(x, x.afternoon()), "0: 0 " + honour);
        Check.due("can't be undone", x.count(10), kept);
        Check.due("the hour", x.count(1), 1);
    }

    private static void acts() {
        Sentence.of(14, "h and a digit (hours())");
        for (int n = 0; n <= 9; n++) {
            DeadTillSix x = Check.town(TWO);
            Check.due("h" + n, Check.asked(x, Check.afternoon(x, "h" + n)), "1: 0 0");
            Check.due("the hour", x.count(1), n);
        }
        Sentence.of(14, "d, a digit and a digit 1 .. 9 (dies())");
        for (int n = 1; n <= 9; n++) {
            DeadTillSix x = Check.town(TWO);
            Check.due("d1" + n, Check.asked(x, Check.afternoon(x, "d1" + n)), "1: 0 0");
            Check.due("hours left", x.person(1, 3), n);
        }
        Check.due("d10", Check.afternoon(Check.town(TWO), "d10"), -1 - 2);
        Sentence.of(14, "c and a digit (coughs())");
        DeadTillSix c = Check.town(TWO);
        c.dies(0, 1);
        Check.due("c0", Check.asked(c, Check.afternoon(c, "c0")), "1: 0 0");
        Check.due("it lives", c.count(2), 0);
        Sentence.of(14, "l, two digits and a digit 1 .. 9 (lends()), p, likewise (pays())");
        for (int n = 1; n <= 9; n++) {
            DeadTillSix x = Check.town(TWO);
            Check.due("l01" + n, Check.asked(x, Check.afternoon(x, "l01" + n)), "1: 0 0");
            Check.due("the debt", x.between(1, 0, 2), n);
            Check.due("p10" + n, Check.asked(x, Check.afternoon(x, "p10" + n)), "1: 0 0");
            Check.due("the debt", x.between(1, 0, 2), 0);
        }
        Check.due("l010", Check.afternoon(Check.town(TWO), "l010"), -1 - 3);
        Check.due("p100", Check.afternoon(Check.town(TWO), "p100"), -1 - 3);
    }

    private static void actsThatCannotBe() {
        Sentence.of(14, "they are done one by one, till one can't be (it answers below 0): how many were done; "
                + "the ROW: 1 if one could not be, else 0; HONOUR of all together then");
        // What answers 0 is done: h1 with nobody dead, a cough by one without honour, a debt that is paid.
        DeadTillSix x = Check.town(TWO);
        Check.due("acts that answer 0", Check.asked(x, Check.afternoon(x, "h1d01c0l011p101h1")), "6: 0 0");
        String[] cannot = {"d21", "d91", "c1", "c2", "c9", "l001", "l021", "l201", "l901", "p011", "p001", "p021", "d01d01",
            "c0", "d01l011", "d01l101", "d01p011", "d01p101"};
        int[] done = {0, 0, 0, 0, 0, 0, 0, 0, 0, 0, 0, 0, 1, 0, 1, 1, 1, 1};
        for (int i = 0; i < cannot.length; i++) {
            DeadTillSix y = Check.town(TWO);
            Check.due(cannot[i] + " and h9", Check.asked(y, Check.afternoon(y, cannot[i] + "h9")), done[i] + ": 1 0");
            Check.due("the hour is not come", y.count(1), 0);
            Check.due("what can be undone", y.count(10), done[i]);
            Check.due("the text is empty", y.count(12), 0);
        }
        DeadTillSix z = Check.town("0700000;5000000");
        Check.due("honour then", Check.asked(z, Check.afternoon(z, "d02h1d01h9")), "2: 1 5");
        Check.due("the last act can't be", Check.asked(z, Check.afternoon(z, "h1c0")), "1: 1 10");
    }

    private static void wrongSignOfAfternoon() {
        Sentence.of(14, "-1 - p: the sign at p can't stand there (as people(); 60 signs); nothing is done then");
        String[] starts = {"", "h", "d", "d0", "c", "l", "l0", "l01", "p", "p1", "p10"};
        String letters = "hdclp";
        for (String start : starts) {
            boolean zero = !start.equals("d0") && start.length() < 3;
            for (int sign = 0; sign < 256; sign++) {
                boolean digit = sign >= '0' && sign <= '9';
                boolean right = start.isEmpty() ? letters.indexOf(sign) >= 0 : digit && (zero || sign != '0');
                DeadTillSix x = Check.town(TWO);
                int answer = Check.afternoon(x, "h1" + start + (char) sign);
                Check.due(start + " and sign " + sign, answer == -1 - 2 - start.length(), !right);
                Check.due("nothing is done by " + start + " and " + sign, x.count(1) == 0, answer < 0);
            }
            if (!start.isEmpty()) {
                Check.dueAndEmptied("h1" + start, DeadTillSix::afternoon, -1 - 2 - start.length());
            }
        }
        Check.dueAndEmptied("h1d11;h1", DeadTillSix::afternoon, -1 - 5);
        Check.dueAndEmptied("h1d11 h1", DeadTillSix::afternoon, -1 - 5);
    }

    private static void afternoonTooLong() {
        Sentence.of(14, "60 signs");
        String fifty = "h1".repeat(25);
        String[] sixty = {"h1h1h1h1h1", "d01c0d01c0", "h1h1l011h1"};
        for (String end : sixty) {
            DeadTillSix x = Check.town(TWO);
            Check.due("60 that end with " + end, Check.afternoon(x, fifty + end) > 0, true);
            for (String behind : new String[] {"h", "x", "h1", "0"}) {
                Check.due("60 and " + behind, Check.afternoon(x, fifty + end + behind), -1 - 60);
            }
        }
        Check.due("60 that end too early", Check.afternoon(Check.town(TWO), fifty + "h1h1h1h1d1"), -1 - 60);
        Check.due("the first 60 could go on", Check.afternoon(Check.town(TWO), fifty + "h1h1h1h1d11"), -1 - 60);
        Check.due("the first 60 could not", Check.afternoon(Check.town(TWO), fifty + "h1h1h1h1dx1"), -1 - 59);
        Check.due("59 that end too early", Check.afternoon(Check.town(TWO), fifty + "h1h1h1h1h"), -1 - 59);
    }

    private static void undo() {
        Sentence.of(15, "(OPINIONS, CASH, HONOUR, TIMES, DEAD, HEARD, DEBTS, HOUR are as ahead of it)");
        DeadTillSix x = Check.town("0900009;0000009");
        x.lends(0, 1, 2);
        String before = Check.seen(x);
        Check.rule(x, "5");
        Check.afternoon(x, "l014d01h2");
        Check.due("all of these changed", Check.seen(x), "hour 2; 3 5 1 0 2 0 7 - 8/0 ; 15 0 0 0 0 7 0 0/7 - ");
        Check.due("undone", x.undo(), 1);
        Check.due("all of these", Check.seen(x), before);
        Check.due("the rule is not", x.between(0, 1, 1), 5);
        Sentence.of(15, "such as were done; hours() of 1 and more, afternoon() of which one ACT was done, as one");
        DeadTillSix y = Check.town(TWO);
        y.hours(0);
        y.hours(61);
        y.dies(0, 0);
        y.dies(2, 1);
        y.coughs(0);
        y.lends(0, 1, 99);
        y.pays(0, 1, 1);
        Check.afternoon(y, "");
        Check.afternoon(y, "c0h1");
        Check.afternoon(y, "h1x");
        Check.due("what was not done", y.count(10), 0);
        Check.due("none is left", y.undo(), -1);
        y.hours(1);
        Check.due("hours(1)", y.count(10), 1);
        Check.afternoon(y, "h1c0h1");
        Check.due("one act of an afternoon", y.count(10), 2);
        Check.afternoon(y, "h1h1d01c0h1");
        Check.due("an afternoon as one", y.count(10), 3);
        Check.due("undone", y.undo(), 2);
        Check.due("the hour", y.count(1), 2);
        Check.due("undone", y.undo(), 1);
        Check.due("the hour", y.count(1), 1);
        Check.due("undone", y.undo(), 0);
        Check.due("the hour", y.count(1), 0);
        Sentence.of(15, "Refused: none.");
        Check.due("no more", y.undo(), -1);
        Check.due("the hour", y.count(1), 0);
        Check.due("of a new object", new DeadTillSix().undo(), -1);
    }

    private static void undoOfEach() {
        Sentence.of(15, "The latest hours(), dies(), coughs(), lends(), pays(), afternoon()");
        Check.On[] acts = {x -> x.hours(1), x -> x.dies(1, 1), x -> x.coughs(0), x -> x.lends(1, 2, 1), x -> x.pays(1, 2, 1),
            DeadTillSix::afternoon};
        for (int i = 0; i < acts.length; i++) {
            DeadTillSix x = Check.town("0000000;0000001;0000009");
            x.dies(0, 9);
            x.lends(2, 1, 1);
            Check.say(x, "h1");
            String before = Check.seen(x);
            // A cough by one without honour and a debt that is paid answer 0, and are done.
            Check.due("act " + i, acts[i].answer(x) >= 0, true);
            Check.due("it changed something", Check.seen(x).equals(before), false);
            Check.due("it can be undone", x.undo(), 2);
            Check.due("all is as it was", Check.seen(x), before);
        }
    }

    private static void twelve() {
        Sentence.of(15, "(of 12 that are kept, the latest ones");
        for (int done = 11; done <= 27; done++) {
            DeadTillSix x = Check.town(TWO);
            for (int i = 0; i < done; i++) {
                x.hours(1);
            }
            int kept = Math.min(12, done);
            Check.due(done + " were done", x.count(10), kept);
            for (int i = kept - 1; i >= 0; i--) {
                Check.due("undo()", x.undo(), i);
                Check.due("the hour", x.count(1), done - kept + i);
            }
            Check.due("no more", x.undo(), -1);
            Check.due("the hour", x.count(1), done - kept);
        }
        // One that is refused does not push out the first of twelve.
        DeadTillSix y = Check.town(TWO);
        for (int i = 0; i < 12; i++) {
            y.hours(1);
        }
        y.dies(0, 10);
        y.coughs(0);
        y.lends(0, 0, 1);
        y.pays(0, 1, 1);
        y.hours(0);
        Check.afternoon(y, "c0");
        for (int i = 11; i >= 0; i--) {
            Check.due("undo()", y.undo(), i);
        }
        Check.due("the hour", y.count(1), 0);
    }

    private static void undoForgotten() {
        Sentence.of(15, "(people() and again() forget them, if they are not refused; an empty people() does not.)");
        DeadTillSix x = Check.town(TWO);
        x.keep(0);
        x.hours(1);
        x.people();
        Check.due("an empty people()", x.count(10), 1);
        Check.people(x, "0000000;0");
        Check.due("a refused people()", x.count(10), 1);
        x.again(1);
        Check.due("a refused again()", x.count(10), 1);
        x.again(0);
        Check.due("again()", x.count(10) + " " + x.undo(), "0 -1");
        x.hours(1);
        Check.people(x, "0000000");
        Check.due("people()", x.count(10) + " " + x.undo(), "0 -1");
        x.hours(1);
        Check.due("again() that is refused, since people came", x.again(0), false);
        Check.due("undo() then", x.undo(), 0);
        Check.due("the hour", x.count(1), 1);
        Check.due("the people", x.count(0), 3);
    }
}
