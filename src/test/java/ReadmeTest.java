import java.io.IOException;
import java.lang.reflect.Method;
import java.lang.reflect.Modifier;
import java.nio.file.Files;
import java.nio.file.Path;
import java.util.regex.Matcher;
import java.util.regex.Pattern;

/** README.md: the calls of its example answer as it says, and it names each call of the face. */
final class ReadmeTest {
    private static final Pattern CALL = Pattern.compile("(?m)^x\\.(\\w+)\\(([^)]*)\\); +// (-?\\d+)");
    private static final Checks CHECKS = new Checks("ReadmeTest");

    public static void main(String[] args) throws IOException, ReflectiveOperationException {
        String text = Files.readString(Path.of("README.md"));
        example(text);
        names(text);
        CHECKS.end();
    }

    private static void example(String text) throws ReflectiveOperationException {
        OtherCoins x = new OtherCoins();
        Matcher calls = CALL.matcher(text);
        int made = 0;
        while (calls.find()) {
            long got = answer(x, calls.group(1), calls.group(2));
            CHECKS.due(calls.group(), Long.parseLong(calls.group(3)), got);
            made++;
        }
        CHECKS.due("every call of the example is read", text.split("\nx\\.", -1).length - 1, made);
        CHECKS.due("there is an example", 1, made > 0 ? 1 : 0);
    }

    private static void names(String text) {
        for (Method method : OtherCoins.class.getDeclaredMethods()) {
            if (Modifier.isPublic(method.getModifiers())) {
                CHECKS.due("it names " + method.getName(), 1, text.contains("`" + method.getName() + "(") ? 1 : 0);
            }
        }
    }

    private static long answer(OtherCoins x, String name, String told) throws ReflectiveOperationException {
        String[] words = told.isEmpty() ? new String[0] : told.split(", ");
        for (Method method : OtherCoins.class.getDeclaredMethods()) {
            if (method.getName().equals(name) && Modifier.isPublic(method.getModifiers())) {
                return ((Number) method.invoke(x, values(method, words))).longValue();
            }
        }
        throw new NoSuchMethodException(name);
    }

    private static Object[] values(Method method, String[] words) {
        Class<?>[] types = method.getParameterTypes();
        Object[] values = new Object[words.length];
        for (int i = 0; i < words.length; i++) {
            boolean isLong = i < types.length && types[i] == long.class;
            values[i] = isLong ? Long.decode(words[i].replace("L", "")) : (Object) Integer.decode(words[i]);
        }
        return values;
    }
}
