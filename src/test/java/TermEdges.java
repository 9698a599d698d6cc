/** Boundary cases that the document's face and its terms name. */
final class TermEdges {
    private TermEdges() {
    }

    static void all() {
        calls();
        atMostSix();
        fullTown();
        opinions();
        atFirst();
        limits();
        theDead();
        expressions();
        wordsAtTheirEnds();
        hourOfTheRule();
        hearing();
        debtsThatGrow();
        lookingRound();
        rows();
        refusedCalls();
        textsOfOthers();
    }

    private static void calls() {
        Sentence.ofWhatItIs("An object is used for at most 512 calls after it has been made");
        DeadTillSix x = Check.town("0000000");
        // That took five calls: count(12), two signs, end() and people().
        for (int i = 6; i < 511; i++) {
            x.hours(1);
        }
        Check.due("the hour at last", x.count(1), 505);
        Check.due("the 512th", x.undo(), 11);
    }

    private static void atMostSix() {
        Sentence.ofTerms("PEOPLE 0 .. (at most 6)");
        DeadTillSix x = new DeadTillSix();
        for (int i = 1; i <= 6; i++) {
            Check.due("one comes", Check.people(x, "000000" + i), 1);
            Check.due("people", x.count(0), i);
        }
        Check.due("a seventh", Check.people(x, "0000007"), -1);
        Check.due("people", x.count(0), 6);
        Check.due("cash of the last one", x.person(5, 0), 6);
        Check.dueNoSuch("person 6", () -> x.person(6, 0));
        Sentence.ofTerms("each one more");
        Check.due("person 0 is the first that came", x.person(0, 0), 1);
    }

    /** Each call that looks at all PEOPLE, or at the last one, in a town that is full. */
    private static void fullTown() {
        Sentence.ofTerms("PEOPLE 0 .. (at most 6)");
        DeadTillSix x = Check.town("0000009;0000009;0000009;0000009;0000009;0000009");
        Check.rule(x, "1");
        Check.due("said", Check.asked(x, x.said(5)), "5: 1 1 1 1 1");
        Check.due("later", Check.asked(x, x.later(5, 9)), "0: 0 0 0 0 0 0");
        Check.due("most", Check.asked(x, x.most(9)), "0: 0 0");
        Check.due("longest", Check.asked(x, x.longest(5)), "9: 45 0");
        Check.due("together", Check.asked(x, x.together(9)), "81: 7");
        Check.due("heir", Check.asked(x, x.heir(5, 9)), "0: 1009 1009");
        Check.due("thinks", Check.asked(x, x.thinks(5, 4, 9)), "0: 0");
        Check.due("flattery", Check.asked(x, x.flattery()), "1: 0 1 1");
        Check.due("wakes", x.wakes(), -2);
        Check.due("echo", Check.asked(x, x.echo(5)), "0: 0 0");
        Check.due("lends", x.lends(5, 4, 9), 9);
        Check.due("owes", Check.asked(x, x.owes(4, 5, 9)), "18: 9");
        Check.due("settles", Check.asked(x, x.settles()), "1: 1000 1000 1000 1000 991 1009");
        Check.due("groups", Check.asked(x, x.groups()), "5: 1");
        Check.due("pays", x.pays(4, 5, 9), 0);
        Check.due("streets", Check.asked(x, Check.streets(x, "000000")), "6: 0 1 2 3 4 5");
        Check.due("fits", Check.asked(x, x.fits()), "63: 6");
        Check.due("asks", Check.asked(x, x.asks()), "0: 6");
        Check.due("dies", x.dies(5, 9), 1);
        Check.due("wakes", Check.asked(x, x.wakes()), "5: 9 45");
        Check.due("quiet", Check.asked(x, x.quiet(1, 5)), "0: 1 512");
        Check.due("law", Check.asked(x, Check.law(x, "2")), "45: 90 45");
        Check.due("hours", Check.asked(x, x.hours(8)), "1: 40 0");
        Check.due("coughs", x.coughs(5), 20);
        Check.due("sheet", x.sheet(2, 6, 99, 0), 594);
        int[] due = {6, 8, 0, 594, 20, 1, 0, 0, 0, 0, 5, 2, 0, 30};
        for (int what = 0; what < due.length; what++) {
            Check.due("count(" + what + ")", x.count(what), due[what]);
        }
        Check.due("years", x.years(3, 60) >= 0, true);
    }

    private static void opinions() {
        Sentence.ofTerms("(also of those who come later; its own does not count)");
        DeadTillSix x = Check.town("9123450");
        Check.due("of one who is not there", x.count(7), 0);
        Check.people(x, "8900000");
        Check.due("of one who came", x.between(0, 1, 0), 1);
        Check.due("of both, but not of itself", x.count(7), 1 + 8);
        Check.people(x, "0000000;0000000;0000000;0000000");
        for (int i = 1; i < 6; i++) {
            Check.due("of " + i, x.between(0, i, 0), i);
        }
        Check.due("of all", x.count(7), 1 + 2 + 3 + 4 + 5 + 8);
        Check.rule(x, "o");
        Check.due("words of all, but not of itself", x.count(13), 1 + 2 + 3 + 4 + 5 + 8);
        Check.due("what is said of 0, not by itself", x.said(0), 8);
        DeadTillSix y = Check.town("9000000;0900000");
        Check.due("flattery but of itself", Check.asked(y, y.flattery()), "4: 0 1 1");
        y.dies(0, 1);
        y.hours(1);
        Check.due("it does not hear itself", y.person(0, 1) + " " + y.person(0, 4), "0 2");
    }

    private static void atFirst() {
        Sentence.ofTerms("HONOUR 0 .. 9999 (at first 0), TIMES 0 .. 99 (how often it was DEAD; at first 0), "
                + "DEAD 0 .. 9 (hours left; 0: it lives; at first 0), HEARD (those whom it heard in this death, or the "
                + "latest one; bits; at first none). DEBT of each to each other one 0 .. 99 (at first 0).");
        DeadTillSix x = Check.town("0730009;5040004");
        x.hours(7);
        // One who comes into a town where others have been dead begins with nothing, too.
        Check.afternoon(x, "l011d09h3");
        Check.people(x, "9999998");
        for (int what = 1; what < 7; what++) {
            Check.due("person(2, " + what + ")", x.person(2, what), 0);
        }
        for (int other = 0; other < 2; other++) {
            Check.due("what it owes " + other, x.between(2, other, 2), 0);
            Check.due("what " + other + " owes it", x.between(other, 2, 2), 0);
        }
        Sentence.ofTerms("HOUR (at first 0)");
        Check.due("of a new object", new DeadTillSix().count(1), 0);
        Check.due("of one with people", Check.town("0000000").count(1), 0);
    }

    private static void limits() {
        Sentence.ofTerms("a digit (CASH)");
        Check.due("the least", Check.town("0000000").person(0, 0), 0);
        Check.due("the most", Check.town("0000009").person(0, 0), 9);
        Sentence.ofTerms("a text of at most 47 signs");
        Check.due("47", Check.town("0000000;0000000;0000000;0000000;0000000;0000000").count(0), 6);
        Sentence.ofTerms("(9999 at most)");
        DeadTillSix x = Check.town("9999990;9999990;9999990;9999990;9999990;9999990");
        for (int i = 0; i < 2; i++) {
            Check.afternoon(x, "d09h9".repeat(12));
        }
        // 45 an hour, in 216 hours; then 6 hours more, and the next one would bring 10035.
        Check.due("below it", x.person(0, 1), 9720);
        x.dies(0, 9);
        x.hours(6);
        Check.due("below it, still", x.person(0, 1), 9990);
        Check.due("one hour more", x.hours(1), 1);
        Check.due("what came is counted as it came", Check.row(x), "9 0");
        Check.due("at it", x.person(0, 1), 9999);
        x.hours(1);
        Check.due("and no more", Check.row(x), "0 0");
        Check.due("later, too", x.later(0, 99), 9999);
    }

    private static void theDead() {
        Sentence.ofTerms("HEARD (those whom it heard in this death, or the latest one; bits; at first none)");
        DeadTillSix x = Check.town("0000000;0000000;0000000");
        x.dies(0, 2);
        Check.due("at first none", x.person(0, 4), 0);
        x.dies(1, 1);
        x.hours(1);
        Check.due("one who lives", x.person(0, 4), 4);
        x.hours(1);
        Check.due("one more, who lives now", x.person(0, 4), 6);
        x.hours(5);
        Check.due("the latest death", x.person(0, 4), 6);
        x.dies(0, 1);
        Check.due("this death", x.person(0, 4), 0);
    }

    /** WORDS of 0, whose OPINION is 7, of 1, who lives and was dead once, by a rule; 0 owes 2 and is owed 3. */
    private static int words(String rule) {
        DeadTillSix x = Check.town("0700009;5000009");
        Check.afternoon(x, "d11c1l102l013");
        int answer = Check.rule(x, rule);
        return answer < 0 ? answer : x.between(0, 1, 1);
    }

    private static void dueWords(String rule, int want) {
        Check.due(rule, words(rule), want);
    }

    private static void expressions() {
        Sentence.ofTerms("(at first none: d*o+(1-d)*(o+9)/2)");
        DeadTillSix x = Check.town("0700009;5000009");
        Check.due("of one who lives", x.between(0, 1, 1), 8);
        Check.due("cut", x.between(1, 0, 1), 7);
        x.dies(1, 1);
        Check.due("of one who is dead", x.between(0, 1, 1), 7);
        Sentence.ofTerms("< > = bind least (two; 1 or 0; not one behind the other)");
        String[] compared = {"6<7", "7<7", "8<7", "6>7", "7>7", "8>7", "6=7", "7=7", "8=7", "2+2*1=8/2", "(1<2)<(3=3)",
            "(1<2)=1"};
        int[] due = {1, 0, 0, 0, 0, 1, 0, 1, 0, 1, 0, 1};
        for (int i = 0; i < due.length; i++) {
            dueWords(compared[i], due[i]);
        }
        dueWords("5+(2<1)", 5);
        dueWords("5+(1>2)", 5);
        dueWords("5+(1=2)", 5);
        dueWords("5+(1<2)", 6);
        dueWords("1<2<3", -1 - 3);
        dueWords("1=1=1", -1 - 3);
        dueWords("(2>1)>0>0", -1 - 7);
        dueWords("<1", -1);
        dueWords("1<", -1 - 2);
        Sentence.ofTerms("then + - (from the left), then * / (from the left; by 0: 0; cut to 0)");
        dueWords("9-5-3", 1);
        dueWords("9-5+3", 7);
        dueWords("8/4/2", 1);
        dueWords("9/2*2", 8);
        dueWords("7/0", 0);
        dueWords("5+7/0", 5);
        dueWords("5+7/(3-3)*2", 5);
        dueWords("0/0+4", 4);
        dueWords("(0-7)/2+9", 6);
        dueWords("7/(0-2)+9", 6);
        Sentence.ofTerms("then - ahead of a thing (any many)");
        dueWords("-1+3", 2);
        dueWords("--4", 4);
        dueWords("9---4", 5);
        dueWords("2*-3+9", 3);
        dueWords("-7/2+9", 6);
        dueWords("-".repeat(38) + "o", 7);
        dueWords("9+" + "-".repeat(37) + "o", 2);
        dueWords("-", -1 - 1);
        Sentence.ofTerms("a NUMBER of 1 to 3 digits");
        dueWords("4", 4);
        dueWords("004", 4);
        dueWords("999/111", 9);
        dueWords("0004", -1 - 3);
        dueWords("1+1000", -1 - 5);
        Sentence.ofTerms("an EXPRESSION in ( ) (at most 4 in one another)");
        dueWords("((((3))))", 3);
        dueWords("(((((3)))))", -1 - 4);
        dueWords("((((1))))+((((2))))", 3);
        dueWords("((((1))))+(((((2)))))", -1 - 14);
        dueWords("()", -1 - 1);
        dueWords("((1+(2)+(3)))", 6);
        dueWords("9>1+2*(9>1+2*(9>1+2*(9>1+2*(5))))", 1);
        Sentence.ofTerms("THE RULE is a text of at most 40 signs");
        // As many things and operations as forty signs can hold.
        dueWords("-9" + "+1".repeat(12) + "-0".repeat(7), 3);
        dueWords("-9" + "+1".repeat(12) + "-0".repeat(6) + "*7", 3);
        dueWords("-9" + "+1".repeat(12) + "-0".repeat(7) + "-", -1 - 40);
    }

    private static void wordsAtTheirEnds() {
        Sentence.ofTerms("t TIMES of that one, e DEBT of the one who speaks to that one, f DEBT of that one to it");
        dueWords("t", 1);
        dueWords("e", 2);
        dueWords("f", 3);
        Sentence.ofTerms("As ints, put to 0 .. 9: WORDS");
        dueWords("0", 0);
        dueWords("9", 9);
        dueWords("10", 9);
        dueWords("999", 9);
        dueWords("0-1", 0);
        dueWords("-999", 0);
        // 2 to the 31st is the least int, and so is what it is less than nothing, or by -1.
        dueWords("8*256*256*256*16", 0);
        dueWords("8*256*256*256*16-1", 9);
        dueWords("-(8*256*256*256*16)", 0);
        dueWords("8*256*256*256*16/-1", 0);
        dueWords("8*256*256*256*16/-1<0", 1);
        dueWords("256*256*256*256+3", 3);
    }

    private static void hourOfTheRule() {
        Sentence.ofTerms("n HOUR by 12 (rest)");
        DeadTillSix x = Check.town("0000000;0000000");
        for (int hour = 0; hour <= 26; hour++) {
            Check.rule(x, "n-9");
            Check.due("n at hour " + hour, x.between(0, 1, 1), Math.max(0, hour % 12 - 9));
            Check.rule(x, "n");
            Check.due("n at hour " + hour, x.between(0, 1, 1), Math.min(9, hour % 12));
            x.hours(1);
        }
    }

    private static void hearing() {
        Sentence.ofTerms("(1) each one who is DEAD hears all others who live");
        DeadTillSix x = Check.town("0123450;1023450;1203450;1230450;1234050;1234500");
        Check.rule(x, "o");
        for (int i = 0; i < 5; i++) {
            x.dies(i, 1 + i);
        }
        // 5 alone lives: it says 1, 2, 3, 4, 5 of 0 .. 4.
        x.hours(1);
        for (int i = 0; i < 5; i++) {
            Check.due("honour of " + i, x.person(i, 1), 1 + i);
            Check.due("whom " + i + " heard", x.person(i, 4), 32);
        }
        Check.due("one who lives hears nobody", x.person(5, 1) + " " + x.person(5, 4), "0 0");
        DeadTillSix y = Check.town("0900000;9000000");
        y.dies(0, 1);
        y.dies(1, 1);
        y.hours(1);
        Check.due("nobody lives: nobody is heard", y.count(4) + " " + y.person(0, 4) + " " + y.person(1, 4), "0 0 0");
        // All as it is ahead of the hour: 0 lives when it ends, but did not speak in it.
        Sentence.ofTerms("AN HOUR, all as it is ahead of it");
        DeadTillSix z = Check.town("0900000;9000000");
        z.dies(0, 1);
        z.dies(1, 2);
        z.hours(1);
        Check.due("one who comes to live spoke not yet", z.person(1, 1), 0);
        z.hours(1);
        Check.due("but an hour later", z.person(1, 1), 9);
    }

    private static void debtsThatGrow() {
        Sentence.ofTerms("(2) Each DEBT above 0 of one who lives to one who lives is 1 more (99 at most)");
        DeadTillSix x = Check.town("0000009;0000009;0000009");
        x.sheet(2, 3, 97, -90);
        x.lends(0, 1, 90);
        Check.due("none grows not", Check.asked(x, x.owes(0, 1, 99)), "0: 0");
        Check.due("to 99", Check.asked(x, x.owes(1, 0, 9)), "99: 9");
        Check.due("no more", Check.asked(x, x.owes(1, 0, 10)), "99: 9");
        x.dies(0, 3);
        Check.due("while the one is dead it rests", Check.asked(x, x.owes(1, 0, 3)), "90: 0");
        Check.due("then not", Check.asked(x, x.owes(1, 0, 4)), "91: 1");
        x.dies(1, 4);
        Check.due("while the other one is", Check.asked(x, x.owes(1, 0, 4)), "90: 0");
        Check.due("then not", Check.asked(x, x.owes(1, 0, 5)), "91: 1");
        DeadTillSix each = Check.town("0000009;0000009;0000009");
        for (int i = 0; i < 3; i++) {
            each.lends(i, (i + 1) % 3, 1);
            each.lends(i, (i + 2) % 3, 1);
        }
        each.hours(1);
        for (int i = 0; i < 3; i++) {
            Check.due("each debt of " + i + " and to it", each.person(i, 5) + " " + each.person(i, 6), "4 4");
        }
    }

    private static void lookingRound() {
        Sentence.ofTerms("is 1 nearer to that one's WORDS of it (as all is ahead of this hour), if it is not the same");
        int[][] cases = {{0, 0, 0}, {9, 9, 9}, {0, 9, 1}, {9, 0, 8}, {4, 5, 5}, {5, 4, 4}, {5, 5, 5}};
        for (int[] c : cases) {
            DeadTillSix x = Check.town("0" + c[0] + "00000;0000000");
            Check.rule(x, "" + c[1]);
            x.dies(0, 1);
            x.hours(1);
            Check.due("opinion " + c[0] + ", words " + c[1], x.between(0, 1, 0), c[2]);
        }
        // WORDS above 9 are 9, so OPINION stays within 0 .. 9.
        DeadTillSix y = Check.town("0900000;0000000");
        Check.rule(y, "999");
        y.dies(0, 1);
        y.hours(1);
        Check.due("opinion 9, words of 999", y.between(0, 1, 0), 9);
        Sentence.ofTerms("(in this hour, too)");
        DeadTillSix z = Check.town("0450000;0000000;0000000");
        Check.rule(z, "9");
        z.dies(0, 2);
        z.dies(2, 1);
        z.hours(1);
        // 2 spoke in the second hour alone, in which 0 comes to live.
        z.hours(1);
        Check.due("of one heard in both", z.between(0, 1, 0), 5);
        Check.due("of one heard in this hour", z.between(0, 2, 0), 6);
        Sentence.ofTerms("its OPINION of each one whom it HEARD");
        // 1 was heard in the first hour and is dead itself in the second one; by then it says 9. 2 was never heard.
        DeadTillSix heard = Check.town("0550000;0000000;0000000");
        Check.rule(heard, "9*n");
        heard.dies(0, 2);
        heard.dies(2, 9);
        heard.hours(1);
        heard.dies(1, 9);
        heard.hours(1);
        Check.due("one who is dead by now", heard.between(0, 1, 0), 6);
        Check.due("one whom it did not hear", heard.between(0, 2, 0), 5);
        Sentence.ofTerms("DEAD is 1 less for those who are; one who lives thereby LOOKS ROUND");
        Check.due("one who lived already does not", z.between(1, 0, 0), 0);
        z.dies(1, 2);
        z.hours(1);
        Check.due("hours left", z.person(1, 3), 1);
        Check.due("one who is still dead does not", z.between(1, 0, 0), 0);
        z.hours(1);
        Check.due("then it does", z.between(1, 0, 0), 1);
        z.hours(9);
        Check.due("once", z.between(1, 0, 0), 1);
        Check.due("0 lives", z.person(1, 3), 0);
        Sentence.ofTerms("HOUR is 1 more");
        Check.due("hour", z.count(1), 13);
    }

    private static void rows() {
        Sentence.ofTerms("ROW: numbers told last by a call that says so");
        DeadTillSix x = Check.busy();
        Check.due("said(1)", Check.row(x), "2 2");
        x.settles();
        Check.due("a longer one", Check.row(x), "1003 997 1000 1000");
        x.together(1);
        Check.due("a shorter one is all there is", x.count(11), 1);
        Check.dueNoSuch("number 1 of it", () -> x.row(1));
        Sentence.ofTerms("Rows of numbers are compared from the first on");
        DeadTillSix y = Check.town("0909000;9000000;9000000;9000000");
        Check.rule(y, "9-o");
        // 9 less than OPINION, or 9 more, by each: the row 0 1 is the least, though 1 stands at its end.
        Check.due("flattery", Check.asked(y, y.flattery()), "9: 0 1 0");
        Sentence.ofTerms("Fractions are told in lowest terms, upper and lower number (0 by 1)");
        DeadTillSix z = Check.town("0000000;0000000");
        z.dies(0, 2);
        Check.due("4 by 100", Check.asked(z, z.quiet(1, 8)), "0: 1 25");
        Check.due("0 by 100", Check.asked(z, z.quiet(1, 10)), "0: 0 1");
        Check.due("100 by 100", Check.asked(z, z.quiet(1, 0)), "0: 1 1");
        Sentence.ofTerms("Questions change nothing");
        Check.On[] questions = {q -> q.said(0), q -> q.later(0, 99), q -> q.most(99), q -> q.longest(1), q -> q.together(9),
            q -> q.heir(1, 9), q -> q.thinks(0, 1, 99), q -> q.flattery(), q -> q.wakes(), q -> q.echo(0),
            q -> q.owes(1, 0, 99), q -> q.settles(), q -> q.groups(), q -> q.fits(), q -> q.asks(), q -> q.laws(),
            q -> q.tries(), q -> q.bank(2, 2), q -> q.quiet(1, 1), q -> q.rests(0, 0), q -> q.years(1, 60)};
        for (int i = 0; i < questions.length; i++) {
            DeadTillSix asked = Check.busy();
            Check.due("question " + i + " is answered", questions[i].answer(asked) >= 0, true);
            Check.due("question " + i + " tells a row", asked.count(11) > 0, true);
            // The ROW alone is another one; so both are given the same one, and all is compared.
            asked.fits();
            DeadTillSix twin = Check.busy();
            twin.fits();
            Check.due("question " + i + " and then all", Check.all(asked), Check.all(twin));
        }
    }

    private static void refusedCalls() {
        Sentence.ofTerms("Refused calls answer NONE, or false, and change nothing but THE TEXT, which a call that reads it "
                + "empties");
        Check.dueAndNothing("hours(61)", x -> x.hours(61), -1);
        Check.dueAndNothing("dies(4, 1)", x -> x.dies(4, 1), -1);
        Check.dueAndNothing("keep(2)", x -> x.keep(2) ? 1 : 0, 0);
        Check.dueAndNothing("again(1)", x -> x.again(1) ? 1 : 0, 0);
        Check.dueAndNothing("end(3)", x -> x.end(3) ? 1 : 0, 0);
        Check.dueAndEmptied("x", DeadTillSix::people, -1);
        Check.dueAndEmptied("x", DeadTillSix::rule, -1);
        Check.dueAndEmptied("x", DeadTillSix::afternoon, -1);
        Check.dueAndEmptied("x", DeadTillSix::streets, -1);
        Check.dueAndEmptied("x", DeadTillSix::law, -100000);
    }

    private static void textsOfOthers() {
        Sentence.ofTerms("THE TEXT, which a call that reads it empties");
        DeadTillSix x = Check.busy();
        x.undo();
        x.hours(3);
        x.dies(1, 1);
        x.coughs(1);
        x.sheet(2, 4, 5, 5);
        x.lends(1, 2, 1);
        x.pays(2, 1, 1);
        x.keep(1);
        x.again(1);
        Check.due("calls that do not read it leave it", x.count(12), 2);
        Check.due("it is h1, still", Check.asked(x, x.afternoon()), "1: 0 " + x.count(4));
        Check.due("it is empty then", x.count(12), 0);
    }
}
