import java.io.IOException;
import java.lang.reflect.Constructor;
import java.lang.reflect.Field;
import java.lang.reflect.Method;
import java.lang.reflect.Modifier;
import java.nio.file.Files;
import java.nio.file.Path;
import java.util.ArrayList;
import java.util.List;
import java.util.TreeSet;
import java.util.regex.Pattern;

/** The face of the class, and those rules of its language that a search in the text can see. */
final class SourceTest {
    private static final Path SOURCE = Path.of("src/main/java/OtherCoins.java");
    private static final String[] CALLS = {"letters(long)int", "blank()int", "fault()int", "law()int",
        "town(int,int)int", "price(int,int)int", "person(int,int)int", "about(int,int)int", "as(int,int)int",
        "purse(int,int,int)int", "may(int,int)int", "act(int,int)int", "change(int,int,int,int)int",
        "fewest(int,int,int)int", "richest(int,int)int", "dead(int)int", "gains(int,int)int", "trail(int)int",
        "next(int)int", "ways()int", "ends()int", "walk(int,int,int,int)int", "image()int", "restore()int",
        "count(int)int", "digest()long"};
    private static final Checks CHECKS = new Checks("SourceTest");

    public static void main(String[] args) throws IOException {
        calls();
        constants();
        others();
        text();
        CHECKS.end();
    }

    private static void dueTrue(String what, boolean got) {
        CHECKS.due(what, 1, got ? 1 : 0);
    }

    private static String told(Method method) {
        List<String> types = new ArrayList<>();
        for (Class<?> type : method.getParameterTypes()) {
            types.add(type.getSimpleName());
        }
        return method.getName() + "(" + String.join(",", types) + ")" + method.getReturnType().getSimpleName();
    }

    private static void calls() {
        TreeSet<String> got = new TreeSet<>();
        TreeSet<String> names = new TreeSet<>();
        for (Method method : OtherCoins.class.getDeclaredMethods()) {
            if (Modifier.isPublic(method.getModifiers())) {
                got.add(told(method));
                names.add(method.getName());
                dueTrue(method.getName() + " is no static one", !Modifier.isStatic(method.getModifiers()));
            }
        }
        dueTrue("the calls of the face: " + got, got.equals(new TreeSet<>(List.of(CALLS))));
        noneBearsTheNameOfAPublicOne(OtherCoins.class, names);
        for (Class<?> inner : OtherCoins.class.getDeclaredClasses()) {
            noneBearsTheNameOfAPublicOne(inner, names);
        }
    }

    private static void noneBearsTheNameOfAPublicOne(Class<?> type, TreeSet<String> names) {
        for (Method method : type.getDeclaredMethods()) {
            boolean face = type == OtherCoins.class && Modifier.isPublic(method.getModifiers());
            dueTrue(type.getSimpleName() + "." + method.getName(), face || !names.contains(method.getName()));
        }
    }

    private static void constants() {
        CHECKS.due("NONE", -1, OtherCoins.NONE);
        CHECKS.due("UNKNOWN", -101, OtherCoins.UNKNOWN);
        CHECKS.due("OUTSIDE", -102, OtherCoins.OUTSIDE);
        CHECKS.due("STATE", -103, OtherCoins.STATE);
        CHECKS.due("FULL", -104, OtherCoins.FULL);
        TreeSet<String> got = new TreeSet<>();
        for (Field field : OtherCoins.class.getDeclaredFields()) {
            if (!Modifier.isPrivate(field.getModifiers())) {
                got.add(field.getName());
            }
            dueTrue(field.getName() + " is final where static",
                    !Modifier.isStatic(field.getModifiers()) || Modifier.isFinal(field.getModifiers()));
        }
        dueTrue("the constants: " + got, got.equals(new TreeSet<>(List.of("NONE", "UNKNOWN", "OUTSIDE", "STATE", "FULL"))));
    }

    private static void others() {
        dueTrue("final", Modifier.isFinal(OtherCoins.class.getModifiers()));
        Constructor<?>[] constructors = OtherCoins.class.getDeclaredConstructors();
        CHECKS.due("constructors", 1, constructors.length);
        CHECKS.due("its parameters", 0, constructors[0].getParameterCount());
        dueTrue("it is public", Modifier.isPublic(constructors[0].getModifiers()));
        for (Method method : OtherCoins.class.getDeclaredMethods()) {
            boolean hidden = Modifier.isPrivate(method.getModifiers()) || Modifier.isPublic(method.getModifiers());
            dueTrue(method.getName() + " is public or private", hidden);
        }
        Class<?>[] inner = OtherCoins.class.getDeclaredClasses();
        dueTrue("at most twelve classes", inner.length + 1 <= 12);
        for (Class<?> type : inner) {
            dueTrue(type.getSimpleName() + " is static and not public",
                    Modifier.isStatic(type.getModifiers()) && !Modifier.isPublic(type.getModifiers()));
        }
    }

    private static void text() throws IOException {
        String text = Files.readString(SOURCE);
        String[] never = {"\\btry\\b", "\\bcatch\\b", "\\bthrow\\b", "\\bfinally\\b", "\\bsynchronized\\b", "\\bassert\\b",
            "->", "::", "\\bSystem\\.(?!arraycopy)", "\\bpackage\\b", "Exact\\b", "\\.equals\\b", "\\bhashCode\\b",
            "\\btoString\\b", "\\bordinal\\b", "\\bwhile \\(true\\)", "\\bfor \\(;", "[^\\x00-\\x7e]"};
        for (String rule : never) {
            dueTrue("no " + rule, !Pattern.compile(rule).matcher(text).find());
        }
        int imports = text.split("\nimport ", -1).length - 1 + (text.startsWith("import ") ? 1 : 0);
        CHECKS.due("imports", 1, imports);
        dueTrue("of Arrays", text.startsWith("import java.util.Arrays;"));
    }
}
