import java.lang.reflect.Constructor;
import java.lang.reflect.Field;
import java.lang.reflect.InvocationTargetException;
import java.lang.reflect.Method;
import java.lang.reflect.Modifier;
import java.nio.file.Files;
import java.nio.file.Path;
import java.util.Arrays;
import java.util.NoSuchElementException;
import java.util.Random;
import java.util.TreeSet;

/** The face is the document's and no more, its calls never throw by themselves, and the source keeps to its language. */
public final class FaceTest {
    private static final String[] FACE = {
        "int sign(int)", "boolean end(int)", "int people()", "int rule()", "int person(int,int)!",
        "int between(int,int,int)!", "int sheet(int,int,int,int)", "int hours(int)", "int dies(int,int)",
        "int coughs(int)", "int lends(int,int,int)", "int pays(int,int,int)", "int afternoon()", "int undo()",
        "int said(int)", "int later(int,int)", "int most(int)", "int longest(int)", "int together(int)",
        "int heir(int,int)", "int thinks(int,int,int)", "int flattery()", "int wakes()", "int echo(int)",
        "int owes(int,int,int)", "int settles()", "int groups()", "int streets()", "int heard(int,int)", "int forget()",
        "int fits()", "int asks()", "int listens(int,int,int)", "int doubts()", "int laws()", "int tries()",
        "int bank(int,int)", "int quiet(int,int)", "int rests(int,int)", "int law()", "int years(int,int)",
        "boolean keep(int)", "boolean again(int)", "int count(int)", "long row(int)!"};
    private static final int[] WILD = {Integer.MIN_VALUE, Integer.MIN_VALUE + 1, -100, -10, -7, -2, -1, 0, 1, 2, 3, 4, 5, 6,
        7, 8, 9, 10, 12, 13, 59, 60, 61, 98, 99, 100, 512, 65536, Integer.MAX_VALUE - 1, Integer.MAX_VALUE};
    private static final String[] NOT_IN_THE_LANGUAGE = {"->", "::", "finally", "synchronized", "assert ", "Exact(",
        "System.out", "nanoTime", "currentTimeMillis", "Random", "catch", "java.util.*", ".getMessage", "static {"};

    public static void main(String[] args) throws Exception {
        face();
        inside();
        for (int seed = 0; seed < 300; seed++) {
            wildCalls(new Random(seed));
        }
        if (args.length > 0) {
            source(Files.readString(Path.of(args[0], "src/main/java/DeadTillSix.java")));
        }
        Check.close();
    }

    private static void face() throws Exception {
        Class<?> face = DeadTillSix.class;
        Check.due("public and final", Modifier.isPublic(face.getModifiers()) && Modifier.isFinal(face.getModifiers()), true);
        TreeSet<String> found = new TreeSet<>();
        TreeSet<String> publicNames = new TreeSet<>();
        TreeSet<String> privateNames = new TreeSet<>();
        for (Method m : face.getDeclaredMethods()) {
            (Modifier.isPrivate(m.getModifiers()) ? privateNames : publicNames).add(m.getName());
            if (!Modifier.isPrivate(m.getModifiers())) {
                String types = String.join(",", Arrays.stream(m.getParameterTypes()).map(Class::getName).toList());
                boolean says = Arrays.equals(m.getExceptionTypes(), new Class<?>[] {NoSuchElementException.class});
                found.add(m.getReturnType().getName() + " " + m.getName() + "(" + types + ")" + (says ? "!" : ""));
                Check.due(m.getName() + " is public", Modifier.isPublic(m.getModifiers()), true);
            }
        }
        Check.due("the face", "" + found, "" + new TreeSet<>(Arrays.asList(FACE)));
        privateNames.retainAll(publicNames);
        Check.due("private methods with public names", "" + privateNames, "[]");
        for (Field f : face.getDeclaredFields()) {
            boolean none = f.getName().equals("NONE");
            Check.due("field " + f.getName() + " is private", Modifier.isPrivate(f.getModifiers()), !none);
            Check.due("field " + f.getName() + " is no static state",
                    Modifier.isStatic(f.getModifiers()) && !Modifier.isFinal(f.getModifiers()), false);
        }
        Check.due("NONE", face.getField("NONE").getInt(null), -1);
        Constructor<?>[] made = face.getDeclaredConstructors();
        Check.due("one constructor", made.length, 1);
        Check.due("it is public", Modifier.isPublic(made[0].getModifiers()) && made[0].getParameterCount() == 0, true);
    }

    /** Rules 1, 2, 5 and 11 of the language, as far as they can be seen of the classes inside. */
    private static void inside() {
        for (Class<?> c : DeadTillSix.class.getDeclaredClasses()) {
            String name = c.getSimpleName();
            int open = Modifier.PUBLIC | Modifier.PROTECTED;
            Check.due(name + " is static", Modifier.isStatic(c.getModifiers()), true);
            Check.due(name + " is not public or protected", (c.getModifiers() & open) == 0, true);
            int fields = 0;
            for (Field f : c.getDeclaredFields()) {
                boolean isStatic = Modifier.isStatic(f.getModifiers());
                fields += isStatic ? 0 : 1;
                Check.due(name + "." + f.getName() + " is no static state",
                        isStatic && !Modifier.isFinal(f.getModifiers()), false);
            }
            Check.due(name + " has at most twenty fields", fields <= 20, true);
            for (Method m : c.getDeclaredMethods()) {
                Check.due(name + "." + m.getName() + " has at most seven parameters", m.getParameterCount() <= 7, true);
            }
        }
    }

    /** Calls with any arguments at all: nothing but NoSuchElementException comes, and that from three of them only. */
    private static void wildCalls(Random random) throws Exception {
        DeadTillSix x = new DeadTillSix();
        Method[] calls = Arrays.stream(DeadTillSix.class.getDeclaredMethods())
                .filter(m -> Modifier.isPublic(m.getModifiers()))
                .sorted((a, b) -> a.getName().compareTo(b.getName())).toArray(Method[]::new);
        String[] texts = {"0730009;5040004", "9999999", "o*t-e", "d09h3c0", "l019p019h9", "951", "((((o", "1/0", "-"};
        for (int i = 0; i < 150; i++) {
            if (random.nextInt(4) == 0) {
                Check.say(x, texts[random.nextInt(texts.length)]);
            }
            Method m = calls[random.nextInt(calls.length)];
            Object[] arguments = new Object[m.getParameterCount()];
            for (int k = 0; k < arguments.length; k++) {
                arguments[k] = WILD[random.nextInt(WILD.length)];
            }
            String thrown = "";
            try {
                m.invoke(x, arguments);
            } catch (InvocationTargetException e) {
                boolean may = m.getExceptionTypes().length > 0 && e.getCause() instanceof NoSuchElementException;
                thrown = may ? "" : e.getCause().toString();
            }
            Check.due(m.getName() + Arrays.toString(arguments) + " throws", thrown, "");
        }
    }

    private static void source(String source) {
        for (String word : NOT_IN_THE_LANGUAGE) {
            Check.due("the source has " + word, source.contains(word), false);
        }
        int classes = 0;
        int imports = 0;
        int start = 0;
        int number = 0;
        for (String line : source.split("\n")) {
            number++;
            // All calls live in one room, so no method makes an object: rows stand in fields, or are made by a constructor.
            boolean makes = line.contains("new ") && !line.matches(" +(private .* = new .*|throw new .*;|towns\\[i\\] = new Town\\(\\);)")
                    && !line.matches(" +(/?\\*|//).*");
            Check.due("line " + number + " makes an object", makes, false);
            imports += line.startsWith("import ") ? 1 : 0;
            classes += line.matches(".*\\bclass [A-Z].*\\{") ? 1 : 0;
            boolean opens = line.matches("    (    )?[a-zA-Z].*\\(.*\\).*\\{") && !line.contains(" class ");
            if (opens) {
                start = number;
            }
            if (start > 0 && line.matches("    (    )?\\}")) {
                Check.due("the method at line " + start + " is short", number - start <= 60, true);
                start = 0;
            }
        }
        Check.due("imports", imports, 1);
        Check.due("at most twelve classes", classes <= 12, true);
        Check.due("signs of the source are plain", source.chars().allMatch(c -> c == '\n' || c >= 32 && c < 127), true);
    }
}
