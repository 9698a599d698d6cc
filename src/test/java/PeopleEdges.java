/** Boundary cases of promises 1 to 8. */
final class PeopleEdges {
    private static final String SIX = "0123451;1123452;2223453;3233454;4234455;5234556";
    /** Forty signs, of which every odd number could be a rule. */
    private static final String FORTY = "o+d+t+e+f+n+o+d+t+e+f+n+o+d+t+e+f+n+o+12";

    private PeopleEdges() {
    }

    static void all() {
        newObject();
        sign();
        end();
        emptyPeople();
        wrongSignOfPeople();
        peopleEndTooEarly();
        peopleTooLong();
        peopleWithoutRoom();
        emptyRule();
        wrongSignOfRule();
        ruleTooLong();
        person();
        between();
        sheetEntries();
        sheetRefused();
    }

    private static void newObject() {
        Sentence.of(1, "No PEOPLE.");
        DeadTillSix x = new DeadTillSix();
        for (int what = 0; what < 14; what++) {
            Check.due("count(" + what + ")", x.count(what), 0);
        }
        Check.dueNoSuch("person(0, 0)", () -> x.person(0, 0));
        Check.dueNoSuch("between(0, 1, 0)", () -> x.between(0, 1, 0));
        Check.due("calls that name one", x.dies(0, 1) + " " + x.coughs(0) + " " + x.lends(0, 1, 1) + " " + x.pays(0, 1, 1)
                + " " + x.said(0) + " " + x.later(0, 0) + " " + x.longest(0) + " " + x.heir(0, 1) + " " + x.thinks(0, 1, 0)
                + " " + x.echo(0) + " " + x.owes(0, 1, 0), "-1 -1 -1 -1 -1 -1 -1 -1 -1 -1 -1");
        Check.due("years", Check.asked(x, x.years(9, 60)), "0: 0 0");
        Check.due("hours", Check.asked(x, x.hours(60)), "0: 0 0");
        Check.due("a sheet", x.sheet(2, 6, 50, 0), 0);
        Check.due("another law", Check.asked(x, Check.law(x, "9")), "0: 0 0");
    }

    private static void sign() {
        Sentence.of(2, "Four signs come behind THE TEXT, of v the highest byte first: how many it has.");
        DeadTillSix x = new DeadTillSix();
        Check.due("of -1", x.sign(-1), 4);
        Check.due("a sign of 255 can't stand there", x.people(), -1);
        Check.due("the first again", x.sign('1' << 24 | '2' << 16 | '3' << 8 | '4'), 4);
        x.sign('5' << 24 | '6' << 16 | '7' << 8);
        Check.due("the last byte is a sign, too", x.people(), -8);
        x.sign('1' << 24 | '2' << 16 | '3' << 8 | '4');
        x.sign('5' << 24 | '6' << 16 | '7' << 8 | ';');
        x.sign('7' << 24 | '6' << 16 | '5' << 8 | '4');
        Check.due("three fours", x.sign('3' << 24 | '2' << 16 | '1' << 8), 16);
        x.end(15);
        Check.due("two people", x.people(), 2);
        Check.due("as they were told", x.between(0, 1, 0) + " " + x.between(1, 0, 0) + " " + x.count(3), "2 7 8");
        Sentence.of(2, "Refused: there would be more than 80.");
        for (int length = 72; length <= 80; length++) {
            DeadTillSix y = new DeadTillSix();
            for (int i = 0; i < 20; i++) {
                y.sign(0);
            }
            y.end(length);
            Check.due("behind " + length, y.sign('o' << 24), length <= 76 ? length + 4 : -1);
            Check.due("signs then", y.count(12), length <= 76 ? length + 4 : length);
        }
    }

    private static void end() {
        Sentence.of(3, "THE TEXT has its first n signs alone: true");
        for (int n = 0; n <= 80; n += 8) {
            DeadTillSix x = new DeadTillSix();
            for (int i = 0; i < 20; i++) {
                x.sign(0);
            }
            Check.due("end(" + n + ")", x.end(n), true);
            Check.due("signs then", x.count(12), n);
        }
        DeadTillSix z = new DeadTillSix();
        Check.say(z, "5x+1");
        z.end(1);
        Check.due("what is behind is gone", z.rule(), 0);
        Sentence.of(3, "false if it has not so many, or n is below 0");
        DeadTillSix y = new DeadTillSix();
        Check.due("end(0) of none", y.end(0), true);
        Check.due("end(1) of none", y.end(1), false);
        Check.due("end(-1) of none", y.end(-1), false);
        y.sign(0);
        int[] wrong = {5, 6, 80, 81, Integer.MAX_VALUE, -1, -4, Integer.MIN_VALUE};
        for (int n : wrong) {
            Check.due("end(" + n + ")", y.end(n), false);
            Check.due("signs then", y.count(12), 4);
        }
        Check.due("end(4)", y.end(4), true);
        y.end(3);
        Check.due("end(4) of three, though there were four", y.end(4), false);
    }

    private static void emptyPeople() {
        Sentence.of(4, "(an empty one: nothing)");
        Check.dueAndEmptied("", DeadTillSix::people, 0);
        DeadTillSix full = Check.town(SIX);
        Check.due("though there is no room", full.people(), 0);
        Sentence.of(4, "how many LINES");
        for (int lines = 1; lines <= 6; lines++) {
            DeadTillSix x = new DeadTillSix();
            Check.due(lines + " lines", Check.people(x, SIX.substring(0, 8 * lines - 1)), lines);
            Check.due("people", x.count(0), lines);
            Check.due("cash of the last", x.person(lines - 1, 0), lines);
        }
    }

    private static void wrongSignOfPeople() {
        Sentence.of(4, "-1 - p: the sign at p can't stand there");
        for (int p = 0; p < 47; p++) {
            boolean between = p % 8 == 7;
            char[] wrong = between ? new char[] {'0', ':', ',', ' '} : new char[] {'/', ':', ';', (char) 0, (char) 255};
            for (char sign : wrong) {
                DeadTillSix x = new DeadTillSix();
                Check.due(sign + " at " + p, Check.people(x, SIX.substring(0, p) + sign + SIX.substring(p + 1)), -1 - p);
                Check.due("people", x.count(0), 0);
            }
        }
        Sentence.of(4, "Nothing of it comes, if a LINE can't");
        Check.dueAndEmptied("1111111;222222x", DeadTillSix::people, -1 - 14);
        Check.dueAndEmptied("1111111;2222222;", DeadTillSix::people, -1 - 16);
        Check.dueAndEmptied("1111111;2222222;3333333", DeadTillSix::people, -1 - 16);
    }

    private static void peopleEndTooEarly() {
        Sentence.of(4, "its end, if it ends too early");
        for (int length = 1; length < 47; length++) {
            if (length % 8 != 7) {
                DeadTillSix x = new DeadTillSix();
                Check.due(length + " signs", Check.people(x, SIX.substring(0, length)), -1 - length);
                Check.due("people", x.count(0), 0);
                Check.due("the text", x.count(12), 0);
            }
        }
    }

    private static void peopleTooLong() {
        Sentence.of(4, "47, if it has more and the first 47 could go on or end");
        String[] more = {";", "x", "0", ";0000000", ";".repeat(33)};
        for (String behind : more) {
            Check.due("47 and " + behind, Check.people(new DeadTillSix(), SIX + behind), -1 - 47);
        }
        Check.due("wrong at 46", Check.people(new DeadTillSix(), SIX.substring(0, 46) + "x0"), -1 - 46);
        Check.due("wrong at 0", Check.people(new DeadTillSix(), "x" + SIX.substring(1) + ";"), -1);
    }

    private static void peopleWithoutRoom() {
        Sentence.of(4, "the first sign of a LINE for which there is no room");
        for (int there = 1; there <= 6; there++) {
            DeadTillSix x = Check.town(SIX.substring(0, 8 * there - 1));
            int place = 8 * (6 - there);
            Check.due(there + " and six lines", Check.people(x, SIX), -1 - place);
            Check.due("people", x.count(0), there);
            Check.due(there + " and six lines and more", Check.people(x, SIX + ";"), -1 - place);
            Check.due(there + " and one too many that is cut", Check.people(x, SIX.substring(0, place + 1)), -1 - place);
            if (there < 6) {
                Check.due(there + " and wrong ahead of it", Check.people(x, SIX.substring(0, place - 2) + "x;0"), -1 - place + 2);
                Check.due(there + " and as many as have room", Check.people(x, SIX.substring(0, place - 1)), 6 - there);
            }
        }
    }

    private static void emptyRule() {
        Sentence.of(5, "(an empty one: none)");
        DeadTillSix x = Check.town("0700000;5000000");
        Check.rule(x, "1");
        Check.due("a rule", x.between(0, 1, 1), 1);
        Check.due("an empty one", x.rule(), 0);
        Check.due("none", x.between(0, 1, 1) + " " + x.between(1, 0, 1), "8 7");
    }

    private static void wrongSignOfRule() {
        Sentence.of(5, "-1 - p: likewise (40 signs)");
        for (int p = 0; p < 40; p++) {
            for (char sign : new char[] {'x', 'O', ' ', ')', (char) 0, (char) 255}) {
                Check.dueAndEmptied(FORTY.substring(0, p) + sign + FORTY.substring(p + 1), DeadTillSix::rule, -1 - p);
            }
        }
        for (int length = 1; length <= 40; length++) {
            boolean ends = length % 2 == 1 || length == 40;
            DeadTillSix x = Check.town("0700000;5000000");
            Check.rule(x, "4");
            Check.due(length + " signs", Check.rule(x, FORTY.substring(0, length)), ends ? 0 : -1 - length);
            Check.due("a rule that can't be leaves the other one", x.between(0, 1, 1) == 4, !ends);
        }
        Check.due("an open ( at the end", Check.rule(new DeadTillSix(), "(" + FORTY.substring(0, 39)), -1 - 40);
        Check.due("a ) that none opened", Check.rule(new DeadTillSix(), "o)"), -1 - 1);
    }

    private static void ruleTooLong() {
        Sentence.of(5, "likewise (40 signs)");
        for (String behind : new String[] {"+", "x", "1", "+o", "o".repeat(40)}) {
            Check.due("40 and " + behind, Check.rule(new DeadTillSix(), FORTY + behind), -1 - 40);
        }
        Check.due("the first 40 could go on", Check.rule(new DeadTillSix(), FORTY.substring(0, 37) + "*((o))"), -1 - 40);
        Check.due("wrong at 39", Check.rule(new DeadTillSix(), FORTY.substring(0, 39) + "x+1"), -1 - 39);
    }

    private static void person() {
        Sentence.of(6, "NoSuchElementException: none such, another what.");
        DeadTillSix x = Check.town("0730009;5040004;9200001");
        x.lends(0, 1, 2);
        x.lends(2, 1, 1);
        Check.afternoon(x, "d22h1");
        Check.due("the first", x.person(0, 0) + " " + x.person(0, 5) + " " + x.person(0, 6), "7 0 3");
        // 0 and 1 say 3 and 4 of 2; the debt to 0 grew, that to 2 did not.
        Check.due("the last", x.person(2, 0) + " " + x.person(2, 1) + " " + x.person(2, 2) + " " + x.person(2, 3) + " "
                + x.person(2, 4) + " " + x.person(2, 5) + " " + x.person(2, 6), "0 7 1 1 3 0 1");
        Check.due("what it owes together", x.person(1, 5), 4);
        int[] none = {3, 4, 5, 6, 7, -1, Integer.MAX_VALUE, Integer.MIN_VALUE};
        for (int one : none) {
            for (int what = 0; what < 7; what++) {
                int asked = what;
                Check.dueNoSuch("person(" + one + ", " + what + ")", () -> x.person(one, asked));
            }
        }
        for (int what : new int[] {7, 8, -1, Integer.MAX_VALUE, Integer.MIN_VALUE}) {
            Check.dueNoSuch("person(0, " + what + ")", () -> x.person(0, what));
        }
    }

    private static void between() {
        Sentence.of(7, "NoSuchElementException: none such, like ones, another what.");
        DeadTillSix x = Check.town("0730009;5040004;9200001");
        x.lends(0, 2, 2);
        Check.due("the first of the last", x.between(0, 2, 0) + " " + x.between(0, 2, 1) + " " + x.between(0, 2, 2), "3 6 0");
        Check.due("the last of the first", x.between(2, 0, 0) + " " + x.between(2, 0, 1) + " " + x.between(2, 0, 2), "9 9 2");
        for (int what = 0; what < 3; what++) {
            int asked = what;
            for (int none : new int[] {3, 5, 6, -1, Integer.MAX_VALUE, Integer.MIN_VALUE}) {
                Check.dueNoSuch("between(0, " + none + ", " + what + ")", () -> x.between(0, none, asked));
                Check.dueNoSuch("between(" + none + ", 0, " + what + ")", () -> x.between(none, 0, asked));
                Check.dueNoSuch("between of two such", () -> x.between(none, none + 1, asked));
            }
            for (int one = 0; one < 3; one++) {
                int like = one;
                Check.dueNoSuch("between(" + one + ", " + one + ", " + what + ")", () -> x.between(like, like, asked));
            }
        }
        for (int what : new int[] {3, -1, Integer.MAX_VALUE, Integer.MIN_VALUE}) {
            Check.dueNoSuch("between(0, 1, " + what + ")", () -> x.between(0, 1, what));
        }
    }

    private static void sheetEntries() {
        Sentence.of(8, "(of bytes, shorts the lowest bits, with their sign; put to 0 .. 99)");
        int[] bytes = {-1, 0, 0, 0, 1, 1, 98, 98, 99, 99, 100, 99, 127, 99, 128, 0, 255, 0, 256, 0, 257, 1, 355, 99, -256, 0,
            -255, 1, -128, 0, -129, 99, 65536 + 5, 5, Integer.MAX_VALUE, 0, Integer.MIN_VALUE, 0, Integer.MIN_VALUE + 3, 3};
        int[] shorts = {-1, 0, 0, 0, 99, 99, 100, 99, 128, 99, 255, 99, 256, 99, 32767, 99, 32768, 0, 65535, 0, 65536, 0,
            65537, 1, -65536, 0, -65535, 1, -32768, 0, -32769, 99, Integer.MAX_VALUE, 0, Integer.MIN_VALUE + 3, 3};
        int[] ints = {-1, 0, 0, 0, 99, 99, 100, 99, 128, 99, 32768, 99, 65536, 99, -32769, 0, -65535, 0,
            Integer.MAX_VALUE, 99, Integer.MIN_VALUE, 0, Integer.MIN_VALUE + 3, 0};
        int[][] kinds = {bytes, shorts, ints};
        for (int kind = 0; kind < 3; kind++) {
            DeadTillSix x = Check.town("0000007;0000007");
            for (int i = 0; i < kinds[kind].length; i += 2) {
                int f = kinds[kind][i];
                Check.due("sheet(" + kind + ", 1, " + f + ", 0)", x.sheet(kind, 1, f, 0), kinds[kind][i + 1]);
                Check.due("cash", x.person(0, 0), kinds[kind][i + 1]);
            }
        }
        Sentence.of(8, "of n entries f, f + step, ..");
        DeadTillSix y = Check.town(SIX);
        Check.due("six", y.sheet(2, 6, 1, 2), 1 + 3 + 5 + 7 + 9 + 11);
        Check.due("the last one", y.person(5, 0), 11);
        Check.due("ints that wrap", y.sheet(2, 2, Integer.MAX_VALUE, 1), 99);
        Check.due("the second one", y.person(1, 0), 0);
        Check.due("a step that wraps", y.sheet(2, 3, 8, Integer.MIN_VALUE), 8 + 0 + 8);
        Sentence.of(8, "those behind it have 0: the sum of all");
        for (int n = 0; n <= 6; n++) {
            Check.due(n + " entries", y.sheet(1, n, 5, 0), 5 * n);
            for (int i = 0; i < 6; i++) {
                Check.due("cash of " + i, y.person(i, 0), i < n ? 5 : 0);
            }
        }
        DeadTillSix two = Check.town("0000001;0000002");
        Check.due("entries for which there is nobody", two.sheet(0, 6, 4, 1), 4 + 5);
        Check.people(two, "0000003");
        Check.due("one who comes later has its own", two.person(2, 0), 3);
    }

    private static void sheetRefused() {
        Sentence.of(8, "-2: n below 0 (of kinds 0 .. 2; nothing changes)");
        for (int kind = 0; kind < 3; kind++) {
            int asked = kind;
            Check.dueAndNothing("sheet(" + kind + ", -1, 5, 5)", x -> x.sheet(asked, -1, 5, 5), -2);
            Check.dueAndNothing("of the least n", x -> x.sheet(asked, Integer.MIN_VALUE, 5, 5), -2);
        }
        Sentence.of(8, "-3: missing (all 0)");
        for (int n : new int[] {0, 6, -1, Integer.MIN_VALUE}) {
            DeadTillSix x = Check.town("0000009;0000009");
            x.hours(1);
            Check.due("sheet(3, " + n + ", 5, 5)", x.sheet(3, n, 5, 5), -3);
            Check.due("cash then", x.person(0, 0) + " " + x.person(1, 0), "0 0");
            Check.due("nothing is forgotten, nothing comes to be undone", x.count(10), 1);
        }
        Sentence.of(8, "NONE: another kind, n above 6 (these first).");
        for (int kind : new int[] {-1, 4, Integer.MAX_VALUE, Integer.MIN_VALUE}) {
            for (int n : new int[] {-1, 0, 6, 7}) {
                Check.dueAndNothing("sheet(" + kind + ", " + n + ", 5, 5)", x -> x.sheet(kind, n, 5, 5), -1);
            }
        }
        for (int kind = 0; kind < 4; kind++) {
            int asked = kind;
            Check.dueAndNothing("sheet(" + kind + ", 7, 5, 5)", x -> x.sheet(asked, 7, 5, 5), -1);
            Check.dueAndNothing("of the most n", x -> x.sheet(asked, Integer.MAX_VALUE, 5, 5), -1);
        }
    }
}
