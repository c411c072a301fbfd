import java.lang.reflect.Array;
import java.lang.reflect.Constructor;
import java.lang.reflect.Field;
import java.lang.reflect.Method;
import java.lang.reflect.Modifier;
import java.util.ArrayList;
import java.util.Collections;
import java.util.List;

/** The public face, as the document has it and no more, and the room that an object takes. */
public final class FaceTest {
    private static final List<String> FACE = List.of(
        "int clears(boolean)", "int count(int)", "int forbid(int, long)", "int lateness(long)", "int mark(long)",
        "int month(int)", "int offset(long)", "int row(int, long, long)", "int rule(int)", "int spans(int)",
        "int trigger(int, boolean)", "long fired(int, int)", "long span(int, int, int)");

    public static void main(String[] args) throws Exception {
        face();
        room();
        Check.end();
    }

    private static void face() throws Exception {
        Check.yes("public and final", Modifier.isPublic(SpanRules.class.getModifiers())
            && Modifier.isFinal(SpanRules.class.getModifiers()));
        List<String> seen = new ArrayList<>();
        for (Method method : SpanRules.class.getDeclaredMethods()) {
            boolean named = FACE.stream().anyMatch(f -> f.contains(" " + method.getName() + "("));
            if (Modifier.isPrivate(method.getModifiers())) {
                Check.yes(method.getName() + " is no name of the face", !named);
            } else {
                Check.yes(method.getName() + " is public", Modifier.isPublic(method.getModifiers()));
                seen.add(text(method));
            }
        }
        Collections.sort(seen);
        Check.yes("the face is " + FACE + ", not " + seen, seen.equals(FACE));
        Constructor<?>[] made = SpanRules.class.getDeclaredConstructors();
        Check.due("constructors", made.length, 1);
        Check.yes("constructor", SpanRules.class.getConstructor(int.class, int.class, int.class) != null);
        Class<?>[] thrown = SpanRules.class.getMethod("row", int.class, long.class, long.class).getExceptionTypes();
        Check.yes("row throws", thrown.length == 1 && thrown[0] == ArithmeticException.class);
        for (Field field : SpanRules.class.getDeclaredFields()) {
            int modifiers = field.getModifiers();
            boolean isConstant = Modifier.isPublic(modifiers) && Modifier.isStatic(modifiers)
                && Modifier.isFinal(modifiers) && field.getName().equals("NONE");
            Check.yes(field.getName() + " is private or NONE", isConstant || Modifier.isPrivate(modifiers));
        }
    }

    private static String text(Method method) {
        List<String> types = new ArrayList<>();
        for (Class<?> type : method.getParameterTypes()) {
            types.add(type.getName());
        }
        return method.getReturnType().getName() + " " + method.getName() + "(" + String.join(", ", types) + ")";
    }

    /** One room has 600,000 objects and 7.3 million fields and elements, and 512 calls may all make an object. */
    private static void room() throws Exception {
        long[] sums = {0, 0};
        add(new SpanRules(0, 10, 10), sums);
        Check.yes(sums[0] + " objects", sums[0] * 512 <= 600000);
        Check.yes(sums[1] + " fields and elements", sums[1] * 512 <= 7300000);
    }

    private static void add(Object object, long[] sums) throws Exception {
        sums[0]++;
        if (object.getClass().isArray()) {
            sums[1] += Array.getLength(object);
            return;
        }
        for (Field field : object.getClass().getDeclaredFields()) {
            if (!Modifier.isStatic(field.getModifiers())) {
                sums[1]++;
                field.setAccessible(true);
                if (!field.getType().isPrimitive() && field.get(object) != null) {
                    add(field.get(object), sums);
                }
            }
        }
    }
}
