/** Promises 1 to 8: a new object, THE TEXT, people, the rule, and the sheet of cash. */
public final class PeopleTest {
    static final String THREE = "0730009;5040004;9200001";

    public static void main(String[] args) {
        newObject();
        signs();
        ends();
        peopleThatCome();
        peopleThatCannot();
        linesWithoutRoom();
        rulesThatStand();
        rulesThatCannot();
        oneOfThem();
        twoOfThem();
        sheets();
        Check.close();
    }

    private static void newObject() {
        DeadTillSix x = new DeadTillSix();
        for (int what = 0; what < 14; what++) {
            Check.due("1: count(" + what + ") of a new object", x.count(what), 0);
        }
        Check.dueNoSuch("1: person(0, 0)", () -> x.person(0, 0));
        Check.dueNoSuch("1: row(0)", () -> x.row(0));
        Check.due("1: undo()", x.undo(), -1);
        Check.due("1: NONE", DeadTillSix.NONE, -1);
    }

    private static void signs() {
        DeadTillSix x = new DeadTillSix();
        // "1234567" with the highest byte first: person 0 thinks 2 of 1, and has 7.
        Check.due("2: sign", x.sign(0x31323334), 4);
        Check.due("2: sign", x.sign(0x353637ff), 8);
        x.end(7);
        Check.due("2: people()", x.people(), 1);
        Check.due("2: cash", x.person(0, 0), 7);
        for (int i = 1; i <= 20; i++) {
            Check.due("2: sign " + i, x.sign(-1), 4 * i);
        }
        Check.due("2: sign of too many", x.sign(0), -1);
        Check.due("2: it is as it was", x.count(12), 80);
        Check.due("2: three fewer", x.end(77), true);
        Check.due("2: 81 would be too many", x.sign(0), -1);
        Check.due("2: it is as it was", x.count(12), 77);
        Check.due("2: one fewer", x.end(76), true);
        Check.due("2: 80 are not", x.sign(0), 80);
    }

    private static void ends() {
        DeadTillSix x = new DeadTillSix();
        Check.due("3: end(0) of none", x.end(0), true);
        Check.due("3: end(1) of none", x.end(1), false);
        x.sign(0x30303030);
        Check.due("3: end(-1)", x.end(-1), false);
        Check.due("3: end(5)", x.end(5), false);
        Check.due("3: end of the least int", x.end(Integer.MIN_VALUE), false);
        Check.due("3: all are there", x.count(12), 4);
        Check.due("3: end(4)", x.end(4), true);
        Check.due("3: end(3)", x.end(3), true);
        Check.due("3: three are there", x.count(12), 3);
        Check.due("3: signs come behind these", x.sign(0x31313131), 7);
        Check.due("3: as they do", x.people(), 1);
        Check.due("3: its opinion of 2", x.person(0, 0), 1);
        Check.due("3: end(0) of an emptied one", x.end(1), false);
    }

    private static void peopleThatCome() {
        DeadTillSix x = new DeadTillSix();
        Check.due("4: an empty text", x.people(), 0);
        Check.due("4: three", Check.people(x, THREE), 3);
        Check.due("4: the text is emptied", x.count(12), 0);
        Check.due("4: people", x.count(0), 3);
        Check.due("4: all of them", Check.seen(x),
                "hour 0; 9 0 0 0 0 0 0 - 7/0 3/0 ; 4 0 0 0 0 0 0 5/0 - 4/0 ; 1 0 0 0 0 0 0 9/0 2/0 - ");
        Check.due("4: one more", Check.people(x, "1234569"), 1);
        Check.due("4: what 1 thinks of one who came later", x.between(1, 3, 0), 0);
        Check.due("4: what that one thinks", x.between(3, 2, 0), 3);
        Check.due("4: two more", Check.people(x, "1111111;2222222"), 2);
        Check.due("4: people", x.count(0), 6);
        Check.due("4: an empty text then", x.people(), 0);
        Check.due("4: six at once", Check.people(new DeadTillSix(),
                "9999991;9999992;9999993;9999994;9999995;9999996"), 6);
    }

    private static void peopleThatCannot() {
        DeadTillSix x = new DeadTillSix();
        String six = "0000000;0000000;0000000;0000000;0000000;0000000";
        String[] texts = {"x", "1", "123456", "1234567;", "12345678", "123456;", ";1234567", "1234567;123456",
            "1234567; 234567", "1234567;1234567x", six + ";", six + "x", six + ";0000000", six.substring(0, 46),
            six.substring(0, 45) + "x0;;", "/000000", ":000000", "000000" + (char) 233};
        int[] places = {0, 1, 6, 8, 7, 6, 0, 14, 8, 15, 47, 47, 47, 46, 45, 0, 0, 6};
        for (int i = 0; i < texts.length; i++) {
            Check.due("4: people() of " + texts[i], Check.people(x, texts[i]), -1 - places[i]);
            Check.due("4: the text is emptied", x.count(12), 0);
            Check.due("4: nothing came", x.count(0), 0);
        }
    }

    private static void linesWithoutRoom() {
        DeadTillSix x = Check.town("0000000;0000000;0000000;0000000");
        x.dies(0, 1);
        Check.due("4: a third line", Check.people(x, "0000000;0000000;0000000"), -17);
        Check.due("4: a third line, wrong elsewhere", Check.people(x, "0000000;0000000;x"), -17);
        Check.due("4: a third line, missing", Check.people(x, "0000000;0000000;"), -17);
        Check.due("4: wrong ahead of it", Check.people(x, "0000000;000x000;0"), -12);
        Check.due("4: nothing of it came", x.count(0), 4);
        Check.due("4: nothing is forgotten", x.count(10), 1);
        Check.due("4: two have room", Check.people(x, "0000000;0000000"), 2);
        Check.due("4: none has", Check.people(x, "0"), -1);
    }

    private static void rulesThatStand() {
        // What 0 says of 1, who lives, was dead twice, whom it owes 3 and who owes it 5, at hour 14; opinion 7.
        DeadTillSix x = Check.town(THREE);
        Check.afternoon(x, "d11h1d11h1h9h3");
        x.sheet(2, 2, 50, 0);
        x.lends(1, 0, 3);
        x.lends(0, 1, 5);
        Check.due("5: opinion is as it was", x.between(0, 1, 0), 7);
        String[] rules = {"o", "d", "t", "e", "f", "n", "5", "07", "009", "999", "0-1", "1+2*3", "9-3-2", "8/2/2", "9/2*2",
            "7/0", "1+7/0", "-7/2+9", "(0-7)/2+9", "--5", "---5+9", "2*-3+9", "9--1-2", "o=7", "o=6", "o<7", "o<8", "o>6", "o>7", "1+1=2", "3>1+1",
            "(1<2)+(2<1)+(3=3)", "((((3))))", "(1+2)*(1+1)", "-(1-5)", "1<(2<3)", "-o+9", "o*1-o*-0", "t*2+e-f+n",
            "999*999*999*3", "0-999*999*999/999", "1---1", "9-o*d", "4*(3-2)/(1+1)"};
        int[] due = {7, 0, 2, 3, 5, 2, 5, 7, 9, 9, 0, 7, 4, 2, 8,
            0, 1, 6, 6, 5, 4, 3, 8, 1, 0, 0, 1, 1, 0, 1, 1,
            2, 3, 6, 4, 0, 2, 7, 4,
            0, 0, 0, 9, 2};
        for (int i = 0; i < rules.length; i++) {
            Check.due("5: rule() of " + rules[i], Check.rule(x, rules[i]), 0);
            Check.due("5: the text is emptied", x.count(12), 0);
            Check.due("5: words by " + rules[i], x.between(0, 1, 1), due[i]);
        }
        Check.due("5: an empty one", x.rule(), 0);
        Check.due("5: is none", x.between(0, 1, 1), 8);
        x.dies(1, 1);
        Check.due("5: none, of one who is dead", x.between(0, 1, 1), 7);
        Check.rule(x, "d*9");
        Check.due("5: d of one who is dead", x.between(0, 1, 1), 9);
        Check.due("5: d of one who lives, by one who is dead", x.between(1, 0, 1), 0);
    }

    private static void rulesThatCannot() {
        DeadTillSix x = Check.town(THREE);
        Check.rule(x, "4");
        String forty = "o+o+o+o+o+o+o+o+o+o+o+o+o+o+o+o+o+o+o+12";
        String open = "(((((".substring(0, 4);
        String[] texts = {"z", "o+", "o<d<t", "(o", "((((" + "(o", "1000", "oo", "1o", "o1", "()", ")", "o)", "+o", "*o", "o**o",
            "o<", "<o", "o<=o", "o=o+1>2", "(1<2<3)", "-", "--", "(", "(o))", "1 +2", "O", "(1)2", "(1)(2)", "1(2)", forty + "+",
            forty + "x", forty + "3", forty.substring(0, 39) + "+", forty.substring(0, 39) + "+o", forty.substring(0, 39) + "x+++",
            open + "o))))+((((o)))" + ")" + ")", "-".repeat(40), "-".repeat(41), "1<2+(3<4<5)", "" + (char) 0, "o" + (char) 200};
        int[] places = {0, 2, 3, 2, 4, 3, 1, 1, 1, 1, 0, 1, 0, 0, 2,
            2, 0, 2, 5, 4, 1, 2, 1, 3, 1, 0, 3, 3, 1, 40,
            40, 40, 40, 40, 39,
            19, 40, 40, 8, 0, 1};
        Check.due("5: the long one has forty signs", forty.length(), 40);
        Check.due("5: it stands", Check.law(x, forty) >= 0, true);
        for (int i = 0; i < texts.length; i++) {
            Check.due("5: rule() of " + texts[i], Check.rule(x, texts[i]), -1 - places[i]);
            Check.due("5: the text is emptied", x.count(12), 0);
            Check.due("5: the rule is as it was", x.between(0, 1, 1), 4);
        }
    }

    private static void oneOfThem() {
        DeadTillSix x = Check.town(THREE);
        x.lends(0, 1, 2);
        x.lends(0, 2, 3);
        x.lends(1, 2, 1);
        x.dies(0, 3);
        x.hours(1);
        int[][] due = {{4, 14, 1, 2, 6, 0, 5}, {5, 0, 0, 0, 0, 2, 2}, {5, 0, 0, 0, 0, 5, 0}};
        for (int i = 0; i < 3; i++) {
            for (int what = 0; what < 7; what++) {
                Check.due("6: person(" + i + ", " + what + ")", x.person(i, what), due[i][what]);
            }
        }
        int[][] none = {{3, 0}, {-1, 0}, {0, 7}, {0, -1}, {Integer.MAX_VALUE, 0}, {0, Integer.MIN_VALUE}};
        for (int[] a : none) {
            Check.dueNoSuch("6: person(" + a[0] + ", " + a[1] + ")", () -> x.person(a[0], a[1]));
        }
    }

    private static void twoOfThem() {
        DeadTillSix x = Check.town(THREE);
        x.lends(0, 1, 2);
        x.dies(2, 1);
        Check.due("7: opinion", x.between(0, 1, 0), 7);
        Check.due("7: words of one who lives", x.between(0, 1, 1), 8);
        Check.due("7: words of one who is dead", x.between(0, 2, 1), 3);
        Check.due("7: words by one who is dead", x.between(2, 1, 1), 5);
        Check.due("7: debt", x.between(1, 0, 2), 2);
        Check.due("7: no debt", x.between(0, 1, 2), 0);
        int[][] none = {{0, 0, 0}, {3, 0, 0}, {0, 3, 0}, {-1, 0, 0}, {0, -1, 0}, {0, 1, 3}, {0, 1, -1}, {0, 6, 0}};
        for (int[] a : none) {
            Check.dueNoSuch("7: between(" + a[0] + ", " + a[1] + ", " + a[2] + ")", () -> x.between(a[0], a[1], a[2]));
        }
    }

    private static void sheets() {
        DeadTillSix x = Check.town(THREE);
        Check.due("8: ints", x.sheet(2, 3, 10, 5), 45);
        Check.due("8: the third has 20", x.person(2, 0), 20);
        Check.due("8: put to 0 .. 99", x.sheet(2, 3, -5, 60), 0 + 55 + 99);
        Check.due("8: bytes", x.sheet(0, 3, 127, 1), 99);
        Check.due("8: the lowest bits with their sign", x.person(1, 0), 0);
        Check.due("8: bytes beyond", x.sheet(0, 2, 256 + 7, 256), 14);
        Check.due("8: one behind it has 0", x.person(2, 0), 0);
        Check.due("8: shorts", x.sheet(1, 3, 65536 + 8, 32768), 8 + 0 + 8);
        Check.due("8: ints wrap", x.sheet(2, 3, Integer.MAX_VALUE, Integer.MAX_VALUE), 99 + 0 + 99);
        Check.due("8: more entries than people", x.sheet(2, 6, 2, 0), 6);
        Check.due("8: no entries", x.sheet(1, 0, 2, 0), 0);
        x.sheet(2, 3, 4, 0);
        Check.due("8: n below 0", x.sheet(2, -1, 1, 1), -2);
        Check.due("8: another kind", x.sheet(4, 1, 1, 1), -1);
        Check.due("8: another kind, n below 0", x.sheet(-1, -1, 1, 1), -1);
        Check.due("8: n above 6", x.sheet(0, 7, 1, 1), -1);
        Check.due("8: missing, n above 6", x.sheet(3, 7, 1, 1), -1);
        Check.due("8: nothing changes", x.count(3), 12);
        Check.due("8: missing", x.sheet(3, -1, 1, 1), -3);
        Check.due("8: all have 0", x.count(3), 0);
        Check.due("8: it is nothing to undo", x.count(10), 0);
        Check.due("8: without people", new DeadTillSix().sheet(2, 6, 9, 9), 0);
    }
}
