import java.lang.reflect.InvocationTargetException;
import java.lang.reflect.Method;
import java.nio.file.Files;
import java.nio.file.Path;
import java.util.regex.Matcher;
import java.util.regex.Pattern;

/** Makes the calls of README.md and looks whether they answer what it says. */
public final class ReadmeTest {
    private static final Pattern MADE = Pattern.compile("SpanRules x = new SpanRules\\((.*)\\); +// .*");
    private static final Pattern CALL = Pattern.compile("x\\.(\\w+)\\((.*)\\); +// (throws \\w+|-?\\d+)(:.*)?");

    private static SpanRules x = null;
    private static int objects = 0;

    public static void main(String[] args) throws Exception {
        boolean inJava = false;
        for (String line : Files.readAllLines(Path.of("README.md"))) {
            if (line.startsWith("```")) {
                inJava = line.equals("```java");
                x = null;
            } else if (inJava) {
                oneLine(line);
            }
        }
        Check.due("kinds shown", objects, 6);
        Check.end();
    }

    private static void oneLine(String line) throws Exception {
        Matcher made = MADE.matcher(line);
        Matcher call = CALL.matcher(line);
        if (made.matches()) {
            String[] given = made.group(1).split(", ");
            x = new SpanRules(Integer.parseInt(given[0]), Integer.parseInt(given[1]), Integer.parseInt(given[2]));
            objects++;
        } else if (call.matches() && x != null) {
            String got = answer(call.group(1), call.group(2).split(", "));
            Check.yes(line + " (" + got + ")", got.equals(call.group(3)));
        } else {
            Check.yes("understood: " + line, false);
        }
    }

    private static String answer(String name, String[] given) throws Exception {
        for (Method method : SpanRules.class.getMethods()) {
            if (method.getName().equals(name)) {
                try {
                    return String.valueOf(method.invoke(x, converted(method.getParameterTypes(), given)));
                } catch (InvocationTargetException e) {
                    return "throws " + e.getCause().getClass().getSimpleName();
                }
            }
        }
        return "there is no such call";
    }

    private static Object[] converted(Class<?>[] types, String[] given) {
        Object[] out = new Object[types.length];
        for (int i = 0; i < types.length; i++) {
            if (types[i] == int.class) {
                out[i] = Integer.valueOf(given[i]);
            } else if (types[i] == long.class) {
                out[i] = Long.valueOf(given[i]);
            } else {
                out[i] = Boolean.valueOf(given[i]);
            }
        }
        return out;
    }
}
