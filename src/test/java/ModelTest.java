import java.lang.reflect.InvocationTargetException;
import java.lang.reflect.Method;
import java.util.ArrayList;
import java.util.Arrays;
import java.util.List;
import java.util.Random;

/** Runs of calls drawn by fixed seeds, on the class and on the model: each answer, each ROW and the people are alike. */
public final class ModelTest {
    private static final int RUNS = 1500;
    private static final int CALLS = 60;
    /** An object is promised for 512 calls; looking at all people takes up to 164 at the end. */
    private static final int ENOUGH = 320;
    private static final String[] NAMES = {
        "person", "between", "sheet", "hours", "dies", "coughs", "lends", "pays", "undo", "said", "later", "most",
        "longest", "together", "heir", "thinks", "flattery", "wakes", "echo", "owes", "settles", "groups", "heard",
        "forget", "fits", "asks", "listens", "doubts", "laws", "tries", "bank", "quiet", "rests", "years", "keep",
        "again", "count", "row", "sign", "end"};
    private static final String[] READERS = {"people", "rule", "afternoon", "streets", "law"};
    private static final String[] ACTS = {"hours", "dies", "coughs", "lends", "pays", "undo", "keep", "again"};

    private final Random random;
    private final DeadTillSix real = new DeadTillSix();
    private final Model model = new Model();
    private final List<String> calls = new ArrayList<>();
    private int used;
    private boolean differs;

    private ModelTest(long seed) {
        random = new Random(seed);
    }

    public static void main(String[] args) throws Exception {
        int runs = args.length > 1 ? Integer.parseInt(args[1]) : RUNS;
        long first = args.length > 2 ? Long.parseLong(args[2]) : 0;
        for (long seed = first; seed < first + runs; seed++) {
            ModelTest test = new ModelTest(seed);
            test.play();
            Check.due("run " + seed + ": " + (test.differs ? test.calls : ""), test.differs, false);
        }
        Check.close();
    }

    private void play() throws Exception {
        say(lines(1 + random.nextInt(6)));
        call("people");
        if (random.nextInt(3) > 0) {
            call("sheet", 2, 6, random.nextInt(100), random.nextInt(30) - 15);
        }
        growOld(random.nextInt(8));
        for (int i = 0; i < CALLS && !differs && used < ENOUGH; i++) {
            int dice = random.nextInt(10);
            if (dice < 2) {
                String reader = READERS[random.nextInt(READERS.length)];
                say(textFor(reader));
                callAndRow(reader);
            } else {
                String[] names = dice < 6 ? ACTS : NAMES;
                String name = names[random.nextInt(names.length)];
                callAndRow(name, arguments(name));
            }
        }
        comparePeople();
    }

    /** Some towns are old: one was honoured, or dead, nearly as much as can be, or all are rich and one owes much. */
    private void growOld(int kind) throws Exception {
        int one = random.nextInt(model.now.people);
        if (kind == 0) {
            say("9");
            call("rule");
            for (int i = 0; i < 6 && model.now.honour[one] < 9000; i++) {
                repeat("d" + one + "9h9", 12);
            }
        } else if (kind == 1) {
            for (int i = 0; i < 8; i++) {
                repeat("d" + one + "1c" + one, 12);
            }
        } else if (kind == 2) {
            call("sheet", 2, 1, 99, 0);
            call("lends", 0, one, 85 + random.nextInt(15));
            call("sheet", 2, 6, 99, -random.nextInt(5));
        }
    }

    private void repeat(String acts, int n) throws Exception {
        say(acts.repeat(n));
        callAndRow("afternoon");
    }

    private void comparePeople() throws Exception {
        for (int what = 0; what < 14 && !differs; what++) {
            call("count", what);
        }
        for (int i = 0; i < model.now.people && !differs; i++) {
            for (int what = 0; what < 7; what++) {
                call("person", i, what);
            }
            for (int j = 0; j < model.now.people; j++) {
                call("between", i, j, 0);
                call("between", i, j, 1);
                call("between", i, j, 2);
            }
        }
    }

    private static String answerOf(Object on, String name, int... arguments) throws Exception {
        Class<?>[] types = new Class<?>[arguments.length];
        Arrays.fill(types, int.class);
        Method method = on.getClass().getDeclaredMethod(name, types);
        Object[] boxed = Arrays.stream(arguments).boxed().toArray();
        try {
            return "" + method.invoke(on, boxed);
        } catch (InvocationTargetException e) {
            return e.getCause().getClass().getSimpleName();
        }
    }

    private void call(String name, int... arguments) throws Exception {
        if (differs) {
            return;
        }
        String got = answerOf(real, name, arguments);
        String want = answerOf(model, name, arguments);
        used++;
        calls.add(name + Arrays.toString(arguments) + "=" + want);
        differs = !got.equals(want);
        if (differs) {
            calls.add("but " + got);
        }
    }

    private void callAndRow(String name, int... arguments) throws Exception {
        call(name, arguments);
        String got = Check.row(real);
        String want = ("" + model.told).replaceAll("[\\[\\],]", "");
        used += 1 + model.told.size();
        if (!differs && !got.equals(want)) {
            differs = true;
            calls.add("row " + want + " but " + got);
        }
    }

    private void say(String text) throws Exception {
        calls.add("\"" + text + "\"");
        call("end", 0);
        for (int i = 0; i < text.length(); i += 4) {
            int v = 0;
            for (int k = 0; k < 4; k++) {
                v = v << 8 | (i + k < text.length() ? text.charAt(i + k) : random.nextInt(256));
            }
            call("sign", v);
        }
        call("end", text.length());
    }

    // ---- what is drawn

    private int near(int least, int most) {
        // Now and then just outside, or far outside.
        int dice = random.nextInt(40);
        if (dice == 0) {
            return least - 1;
        }
        if (dice == 1) {
            return most + 1;
        }
        if (dice == 2) {
            return random.nextInt();
        }
        return least + random.nextInt(most - least + 1);
    }

    private int one() {
        return near(0, Math.max(0, model.now.people - 1));
    }

    private int[] arguments(String name) {
        switch (name) {
            case "person":
                return new int[] {one(), near(0, 6)};
            case "between":
                return new int[] {one(), one(), near(0, 2)};
            case "sheet":
                int wide = random.nextBoolean() ? random.nextInt(100) : random.nextInt();
                return new int[] {near(0, 3), near(0, 6), wide, random.nextInt(4) > 0 ? 7 : random.nextInt()};
            case "hours":
                return new int[] {random.nextInt(4) > 0 ? random.nextInt(5) : near(0, 60)};
            case "dies":
            case "heir":
                return new int[] {one(), near(1, 9)};
            case "lends":
            case "pays":
                return new int[] {one(), one(), random.nextInt(3) > 0 ? near(1, 9) : near(1, 99)};
            case "later":
                return new int[] {one(), near(0, 99)};
            case "most":
                return new int[] {near(0, 99)};
            case "together":
                return new int[] {near(1, 9)};
            case "thinks":
            case "owes":
                return new int[] {one(), one(), random.nextInt(4) > 0 ? near(0, 20) : near(0, 99)};
            case "coughs":
            case "said":
            case "longest":
            case "echo":
                return new int[] {one()};
            case "heard":
                return new int[] {near(0, 4), random.nextInt(3) > 0 ? near(0, 9) : near(0, 99)};
            case "listens":
                return new int[] {near(0, 9), near(0, 1), near(0, 9)};
            case "bank":
                return new int[] {near(0, 99), near(2, 9)};
            case "quiet":
                return new int[] {near(0, 6), near(0, 10)};
            case "rests":
                return new int[] {near(0, 20), near(0, 5)};
            case "years":
                return new int[] {random.nextInt(), near(1, 60)};
            case "keep":
            case "again":
                return new int[] {near(0, 1)};
            case "count":
                return new int[] {near(0, 13)};
            case "row":
                return new int[] {near(0, 5)};
            case "sign":
                return new int[] {random.nextInt()};
            case "end":
                return new int[] {near(0, 80)};
            default:
                return new int[0];
        }
    }

    private String digits(int n) {
        StringBuilder text = new StringBuilder();
        for (int i = 0; i < n; i++) {
            text.append(random.nextInt(10));
        }
        return text.toString();
    }

    private String lines(int n) {
        StringBuilder text = new StringBuilder();
        for (int i = 0; i < n; i++) {
            text.append(i > 0 ? ";" : "").append(digits(7));
        }
        return text.toString();
    }

    private String textFor(String reader) {
        String text;
        switch (reader) {
            case "people":
                text = lines(random.nextInt(4) > 0 ? random.nextInt(2) : random.nextInt(8));
                break;
            case "rule":
            case "law":
                text = random.nextInt(8) == 0 ? "" : expression(3);
                break;
            case "afternoon":
                text = acts(random.nextInt(4) > 0 ? random.nextInt(6) : random.nextInt(25));
                break;
            default:
                text = digits(random.nextInt(8));
                break;
        }
        if (random.nextInt(5) == 0 && !text.isEmpty()) {
            text = spoil(text);
        }
        return text.length() > 80 ? text.substring(0, 80) : text;
    }

    private String spoil(String text) {
        int at = random.nextInt(text.length());
        String signs = "0123456789odtefn()+-*/<>=;hdclp x";
        String sign = random.nextInt(9) == 0 ? "" + (char) random.nextInt(256)
                : "" + signs.charAt(random.nextInt(signs.length()));
        switch (random.nextInt(4)) {
            case 0:
                return text.substring(0, at) + sign + text.substring(at + 1);
            case 1:
                return text.substring(0, at) + sign + text.substring(at);
            case 2:
                return text.substring(0, at) + text.substring(at + 1);
            default:
                return text.substring(0, at);
        }
    }

    private String expression(int deep) {
        StringBuilder text = new StringBuilder(sum(deep));
        if (random.nextInt(5) == 0) {
            text.append("<>=".charAt(random.nextInt(3))).append(sum(deep));
        }
        return text.toString();
    }

    private String sum(int deep) {
        StringBuilder text = new StringBuilder(thing(deep));
        while (random.nextInt(5) < 3) {
            text.append("+-*/+-".charAt(random.nextInt(6))).append(thing(deep));
        }
        return text.toString();
    }

    private String thing(int deep) {
        String minus = random.nextInt(6) == 0 ? "-".repeat(1 + random.nextInt(3)) : "";
        int dice = random.nextInt(8);
        if (dice == 0 && deep > 0) {
            return minus + "(" + expression(deep - 1) + ")";
        }
        if (dice < 3) {
            return minus + digits(random.nextInt(5) > 0 ? 1 : 1 + random.nextInt(3));
        }
        return minus + "odtefno".charAt(random.nextInt(7));
    }

    private String acts(int n) {
        StringBuilder text = new StringBuilder();
        for (int i = 0; i < n; i++) {
            int who = random.nextInt(Math.max(1, model.now.people));
            int whom = random.nextInt(Math.max(1, model.now.people));
            int much = 1 + random.nextInt(9);
            switch (random.nextInt(6)) {
                case 0:
                case 1:
                    text.append('h').append(random.nextInt(10));
                    break;
                case 2:
                    text.append('d').append(who).append(much);
                    break;
                case 3:
                    text.append('c').append(who);
                    break;
                default:
                    text.append(random.nextBoolean() ? 'l' : 'p').append(who).append(whom).append(1 + much % 3);
                    break;
            }
        }
        return text.toString();
    }
}
