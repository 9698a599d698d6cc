import java.util.NoSuchElementException;
import java.util.StringJoiner;

/** What the tests share: saying texts, reading the ROW, and counting what is not as due. */
final class Check {
    private static int wrong;
    private static int asked;

    private Check() {
    }

    static void due(String what, long got, long want) {
        asked++;
        if (got != want) {
            wrong++;
            System.out.println(what + " answered " + got + ", due is " + want);
        }
    }

    static void due(String what, boolean got, boolean want) {
        due(what, got ? 1 : 0, want ? 1 : 0);
    }

    static void due(String what, String got, String want) {
        asked++;
        if (!got.equals(want)) {
            wrong++;
            System.out.println(what + " answered " + got + ", due is " + want);
        }
    }

    /** A call that is to throw NoSuchElementException. */
    interface Call {
        long answer();
    }

    static void dueNoSuch(String what, Call call) {
        asked++;
        String got;
        try {
            got = "" + call.answer();
        } catch (NoSuchElementException e) {
            return;
        } catch (RuntimeException e) {
            got = e.toString();
        }
        wrong++;
        System.out.println(what + " answered " + got + ", due is NoSuchElementException");
    }

    /** Puts a text behind THE TEXT that there is. */
    static void say(DeadTillSix x, String text) {
        int before = x.count(12);
        for (int i = 0; i < text.length(); i += 4) {
            int v = 0;
            for (int k = 0; k < 4; k++) {
                v = v << 8 | (i + k < text.length() ? text.charAt(i + k) : 0);
            }
            x.sign(v);
        }
        x.end(before + text.length());
    }

    static int people(DeadTillSix x, String text) {
        say(x, text);
        return x.people();
    }

    static int rule(DeadTillSix x, String text) {
        say(x, text);
        return x.rule();
    }

    static int afternoon(DeadTillSix x, String text) {
        say(x, text);
        return x.afternoon();
    }

    static int streets(DeadTillSix x, String text) {
        say(x, text);
        return x.streets();
    }

    static int law(DeadTillSix x, String text) {
        say(x, text);
        return x.law();
    }

    /** A new object with these people. */
    static DeadTillSix town(String people) {
        DeadTillSix x = new DeadTillSix();
        people(x, people);
        return x;
    }

    static String row(DeadTillSix x) {
        StringJoiner numbers = new StringJoiner(" ");
        int size = x.count(11);
        for (int i = 0; i < size; i++) {
            numbers.add("" + x.row(i));
        }
        return numbers.toString();
    }

    /** An answer with the ROW behind it. */
    static String asked(DeadTillSix x, int answer) {
        return answer + ": " + row(x);
    }

    /** All that can be seen of the people, in one text. */
    static String seen(DeadTillSix x) {
        StringBuilder all = new StringBuilder("hour " + x.count(1));
        int people = x.count(0);
        for (int i = 0; i < people; i++) {
            all.append("; ");
            for (int what = 0; what < 7; what++) {
                all.append(x.person(i, what)).append(' ');
            }
            for (int j = 0; j < people; j++) {
                all.append(i == j ? "-" : x.between(i, j, 0) + "/" + x.between(i, j, 2)).append(' ');
            }
        }
        return all.toString();
    }

    static void close() {
        System.out.println(asked + " answers asked for, " + wrong + " not as due");
        if (wrong != 0) {
            System.exit(1);
        }
    }
}
