/** Promises 41 to 46: what another rule would do, years by a seed, and what is kept and counted. */
public final class KeptTest {
    static final String THREE = PeopleTest.THREE;

    public static void main(String[] args) {
        otherRules();
        yearsDrawn();
        keeping();
        peopleCameSince();
        counting();
        rows();
        Check.close();
    }

    private static void otherRules() {
        DeadTillSix x = Check.town(THREE);
        Check.due("41: nobody is dead", Check.asked(x, Check.law(x, "9")), "0: 0 0");
        x.dies(0, 2);
        Check.due("41: more", Check.asked(x, Check.law(x, "9")), "8: 36 28");
        Check.due("41: less", Check.asked(x, Check.law(x, "1")), "-24: 4 28");
        Check.due("41: none", Check.asked(x, Check.law(x, "")), "0: 28 28");
        Check.rule(x, "3");
        Check.due("41: none, less another one", Check.asked(x, Check.law(x, "")), "16: 28 12");
        Check.due("41: the rule stays", x.between(0, 1, 1), 3);
        Check.due("41: in twelve hours", Check.asked(x, Check.law(x, "n")), "-10: 2 12");
        Check.due("41: the text is emptied", x.count(12), 0);
        String[] texts = {"x", "o+", "o<d<t", "((((" + "(o", "1000", "-".repeat(41)};
        int[] places = {0, 2, 3, 4, 3, 40};
        for (int i = 0; i < texts.length; i++) {
            Check.due("41: law() of " + texts[i], Check.law(x, texts[i]), -100000 - places[i]);
            Check.due("41: the text is emptied", x.count(12), 0);
        }
        Check.due("41: the row is as it was", Check.row(x), "2 12");
        Check.due("41: the rule is as it was", x.between(0, 1, 1), 3);
    }

    private static int state;

    private static int draw(int n) {
        state = state * 1103515245 + 12345;
        return (state >>> 16) % n;
    }

    private static void yearsDrawn() {
        // The same draws done by hand on an object of its own.
        for (int seed = -40; seed < 40; seed++) {
            DeadTillSix x = Check.town(THREE);
            Check.afternoon(x, "d02h1");
            DeadTillSix y = Check.town(THREE);
            Check.afternoon(y, "d02h1");
            state = seed * 1234567;
            int n = 1 + (seed + 40) % 60;
            for (int i = 0; i < n; i++) {
                int what = draw(4);
                if (what < 2) {
                    y.hours(1);
                } else if (what == 2) {
                    int who = draw(3);
                    y.dies(who, draw(9) + 1);
                } else {
                    y.coughs(draw(3));
                }
            }
            Check.due("42: years(" + seed * 1234567 + ", " + n + ")", Check.asked(x, x.years(seed * 1234567, n)),
                    y.count(4) + ": " + Integer.bitCount(y.count(2)) + " " + y.count(5));
            Check.due("42: it is a question", x.count(1), 1);
        }
        DeadTillSix z = new DeadTillSix();
        Check.due("42: without people", Check.asked(z, z.years(5, 60)), "0: 0 0");
        Check.due("42: no years", z.years(5, 0), -1);
        Check.due("42: below 0", z.years(5, -1), -1);
        Check.due("42: too many", z.years(5, 61), -1);
    }

    private static void keeping() {
        DeadTillSix x = Check.town(THREE);
        Check.due("44: nothing kept", x.again(0), false);
        Check.due("43: keep(2)", x.keep(2), false);
        Check.due("43: keep(-1)", x.keep(-1), false);
        Check.afternoon(x, "l012d02h1");
        String first = Check.seen(x);
        Check.due("43: keep(0)", x.keep(0), true);
        Check.due("44: nothing kept there", x.again(1), false);
        Check.afternoon(x, "h3d12h2c1");
        x.sheet(2, 3, 40, 0);
        String second = Check.seen(x);
        Check.due("43: keep(1)", x.keep(1), true);
        Check.rule(x, "4");
        x.heard(0, 4);
        x.listens(1, 1, 1);
        Check.due("44: again(0)", x.again(0), true);
        Check.due("44: as it was", Check.seen(x), first);
        Check.due("44: acts are forgotten", x.undo(), -1);
        Check.due("44: the rule stays", x.between(0, 1, 1), 4);
        Check.due("44: what was heard stays", x.count(8) + " " + x.count(9), "1 1");
        x.hours(1);
        Check.due("44: again(1)", x.again(1), true);
        Check.due("44: as it was", Check.seen(x), second);
        x.hours(1);
        Check.due("44: again(0) once more", x.again(0), true);
        Check.due("44: as it was", Check.seen(x), first);
        Check.due("44: again(2)", x.again(2), false);
        Check.due("44: again(-1)", x.again(-1), false);
        x.hours(2);
        x.keep(0);
        x.hours(2);
        x.again(0);
        Check.due("43: the latest one counts", x.count(1), 3);
    }

    private static void peopleCameSince() {
        DeadTillSix x = new DeadTillSix();
        Check.due("43: nobody", x.keep(0), true);
        Check.due("44: nobody", x.again(0), true);
        Check.people(x, THREE);
        Check.due("44: people came since", x.again(0), false);
        x.keep(1);
        x.hours(1);
        x.people();
        Check.people(x, "x");
        Check.due("44: nobody came", x.again(1), true);
        Check.people(x, "0000000");
        x.hours(1);
        Check.due("44: one came", x.again(1), false);
        Check.due("44: nothing changes", x.count(1) + " " + x.count(10), "1 1");
        x.keep(1);
        Check.due("44: kept anew", x.again(1), true);
    }

    private static void counting() {
        DeadTillSix x = Check.town(THREE);
        Check.afternoon(x, "l015d02h1l121");
        x.dies(2, 1);
        x.heard(0, 1);
        x.heard(0, 2);
        x.listens(0, 0, 0);
        x.later(0, 0);
        x.sign(0);
        x.end(3);
        // Words: of 0 5 and 9, of 1 8 and 5, of 2 3 and 4.
        int[] due = {3, 1, 5, 14, 14, 2, 5 + 1, 7 + 3 + 5 + 4 + 9 + 2, 2, 1, 2, 3, 3, 5 + 9 + 8 + 5 + 3 + 4};
        for (int what = 0; what < due.length; what++) {
            Check.due("45: count(" + what + ")", x.count(what), due[what]);
        }
        Check.due("45: count(14)", x.count(14), -1);
        Check.due("45: count(-1)", x.count(-1), -1);
        Check.due("45: of the greatest int", x.count(Integer.MAX_VALUE), -1);
    }

    private static void rows() {
        DeadTillSix x = Check.town(THREE);
        Check.dueNoSuch("46: none told", () -> x.row(0));
        x.later(0, 0);
        Check.due("46: row(2)", x.row(2), 0);
        Check.dueNoSuch("46: row(3)", () -> x.row(3));
        Check.dueNoSuch("46: row(-1)", () -> x.row(-1));
        Check.dueNoSuch("46: row of the least int", () -> x.row(Integer.MIN_VALUE));
        x.said(0);
        Check.due("46: row(1)", x.row(1), 9);
        Check.dueNoSuch("46: a shorter one", () -> x.row(2));
        x.dies(0, 1);
        x.sheet(2, 3, 1, 1);
        x.keep(0);
        x.again(0);
        x.heard(0, 0);
        x.listens(0, 0, 0);
        x.undo();
        Check.rule(x, "o");
        Check.people(x, "0000000");
        Check.due("46: calls that tell none leave it", Check.row(x), "7 9");
        x.bank(1, 2);
        Check.due("46: some tell none", x.count(11), 0);
    }
}
