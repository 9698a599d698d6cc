import java.util.NoSuchElementException;
import java.util.StringJoiner;

/** What the tests share: saying texts, reading the ROW, and counting what is not as due. */
final class Check {
    private static int wrong;
    private static int asked;
    /** What stands ahead of each answer that is not as due. */
    private static String heading = "";

    private Check() {
    }

    static void heading(String words) {
        heading = words;
    }

    static void due(String what, long got, long want) {
        due(what, "" + got, "" + want);
    }

    static void due(String what, boolean got, boolean want) {
        due(what, got ? 1 : 0, want ? 1 : 0);
    }

    static void due(String what, String got, String want) {
        asked++;
        if (!got.equals(want)) {
            wrong++;
            System.out.println(heading + what + " answered " + got + ", due is " + want);
        }
    }

    /** A call that is to throw NoSuchElementException. */
    interface Call {
        long answer();
    }

    static void dueNoSuch(String what, Call call) {
        asked++;
        String got;
        try {
            got = "" + call.answer();
        } catch (NoSuchElementException e) {
            return;
        } catch (RuntimeException e) {
            got = e.toString();
        }
        wrong++;
        System.out.println(heading + what + " answered " + got + ", due is NoSuchElementException");
    }

    /** Puts a text behind THE TEXT that there is. */
    static void say(DeadTillSix x, String text) {
        int before = x.count(12);
        for (int i = 0; i < text.length(); i += 4) {
            int v = 0;
            for (int k = 0; k < 4; k++) {
                v = v << 8 | (i + k < text.length() ? text.charAt(i + k) : 0);
            }
            x.sign(v);
        }
        x.end(before + text.length());
    }

    static int people(DeadTillSix x, String text) {
        say(x, text);
        return x.people();
    }

    static int rule(DeadTillSix x, String text) {
        say(x, text);
        return x.rule();
    }

    static int afternoon(DeadTillSix x, String text) {
        say(x, text);
        return x.afternoon();
    }

    static int streets(DeadTillSix x, String text) {
        say(x, text);
        return x.streets();
    }

    static int law(DeadTillSix x, String text) {
        say(x, text);
        return x.law();
    }

    /** A new object with these people. */
    static DeadTillSix town(String people) {
        DeadTillSix x = new DeadTillSix();
        people(x, people);
        return x;
    }

    static String row(DeadTillSix x) {
        StringJoiner numbers = new StringJoiner(" ");
        int size = x.count(11);
        for (int i = 0; i < size; i++) {
            numbers.add("" + x.row(i));
        }
        return numbers.toString();
    }

    /** An answer with the ROW behind it. */
    static String asked(DeadTillSix x, int answer) {
        return answer + ": " + row(x);
    }

    /** All that can be seen of the people, in one text. */
    static String seen(DeadTillSix x) {
        StringBuilder all = new StringBuilder("hour " + x.count(1));
        int people = x.count(0);
        for (int i = 0; i < people; i++) {
            all.append("; ");
            for (int what = 0; what < 7; what++) {
                all.append(x.person(i, what)).append(' ');
            }
            for (int j = 0; j < people; j++) {
                all.append(i == j ? "-" : x.between(i, j, 0) + "/" + x.between(i, j, 2)).append(' ');
            }
        }
        return all.toString();
    }

    /** All that can be seen of an object, then what undo() and again() bring: the object is of no use after it. */
    static String all(DeadTillSix x) {
        StringBuilder all = new StringBuilder("row " + row(x));
        for (int what = 8; what <= 13; what++) {
            all.append(", count(").append(what).append(") ").append(x.count(what));
        }
        all.append(", fits ").append(x.fits()).append(", laws ").append(x.laws()).append('\n').append(seen(x));
        while (x.undo() >= 0) {
            all.append("\nundone: ").append(seen(x));
        }
        for (int i = 0; i < 2; i++) {
            all.append("\nagain(").append(i).append(") ").append(x.again(i) ? seen(x) : "not");
        }
        return all.toString();
    }

    /** A town in which something of every kind stands: debts, deaths, what was heard, a ROW, a text, things kept. */
    static DeadTillSix busy() {
        DeadTillSix x = town("0730009;5040004;9200001;1234567");
        x.lends(0, 1, 3);
        x.keep(0);
        x.dies(0, 3);
        x.hours(1);
        x.heard(0, 2);
        x.listens(5, 0, 7);
        rule(x, "o-d+t");
        x.said(1);
        say(x, "h1");
        return x;
    }

    /** A call on any object. */
    interface On {
        int answer(DeadTillSix x);
    }

    /** A call that does not read THE TEXT, gives this answer and changes nothing. */
    static void dueAndNothing(String what, On call, int want) {
        DeadTillSix x = busy();
        due(what, call.answer(x), want);
        due(what + " and then all", all(x), all(busy()));
    }

    /** A call that reads THE TEXT, gives this answer and changes nothing but that the text is empty. */
    static void dueAndEmptied(String text, On call, int want) {
        DeadTillSix x = busy();
        x.end(0);
        say(x, text);
        due("of " + text, call.answer(x), want);
        DeadTillSix twin = busy();
        twin.end(0);
        due("of " + text + " and then all", all(x), all(twin));
    }

    static void close() {
        System.out.println(asked + " answers asked for, " + wrong + " not as due");
        if (wrong != 0) {
            System.exit(1);
        }
    }
}
