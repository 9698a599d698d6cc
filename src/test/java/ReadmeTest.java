import java.lang.reflect.InvocationTargetException;
import java.lang.reflect.Method;
import java.nio.file.Files;
import java.nio.file.Path;
import java.util.regex.Matcher;
import java.util.regex.Pattern;

/** The examples of README.md: each call answers what stands behind it, in a comment, ahead of a colon. */
public final class ReadmeTest {
    private static final Pattern MADE = Pattern.compile("DeadTillSix town = new DeadTillSix\\(\\);");
    private static final Pattern SAID = Pattern.compile("say\\(town, \"([^\"]*)\"\\);");
    private static final Pattern CALL = Pattern.compile("town\\.(\\w+)\\(([^()]*)\\); +// (-?\\w+)(:.*)?");

    private static DeadTillSix town;
    private static int examples;

    public static void main(String[] args) throws Exception {
        Path readme = Path.of(args.length > 0 ? args[0] : ".", "README.md");
        Matcher block = Pattern.compile("(?s)```java\n(.*?)```").matcher(Files.readString(readme));
        while (block.find()) {
            // The one method that is told there is played by Check.say().
            if (!block.group(1).startsWith("static")) {
                for (String line : block.group(1).split("\n")) {
                    play(line.trim());
                }
            }
        }
        Check.due("README has examples", examples > 30, true);
        Check.close();
    }

    private static void play(String line) throws Exception {
        Matcher said = SAID.matcher(line);
        Matcher call = CALL.matcher(line);
        if (MADE.matcher(line).matches()) {
            town = new DeadTillSix();
        } else if (said.matches()) {
            town.end(0);
            Check.say(town, said.group(1));
        } else if (call.matches()) {
            examples++;
            Check.due("README: " + line, answer(call.group(1), call.group(2)), call.group(3));
        } else {
            Check.due("README: a line that is no example: " + line, line.startsWith("//"), true);
        }
    }

    private static String answer(String name, String arguments) throws Exception {
        String[] told = arguments.isEmpty() ? new String[0] : arguments.split(", ");
        Object[] values = new Object[told.length];
        Class<?>[] types = new Class<?>[told.length];
        for (int i = 0; i < told.length; i++) {
            values[i] = Integer.decode(told[i]);
            types[i] = int.class;
        }
        Method method = DeadTillSix.class.getMethod(name, types);
        try {
            return "" + method.invoke(town, values);
        } catch (InvocationTargetException e) {
            return e.getCause().getClass().getSimpleName();
        }
    }
}
