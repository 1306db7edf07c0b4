import java.lang.reflect.Constructor;
import java.lang.reflect.Field;
import java.lang.reflect.Member;
import java.lang.reflect.Method;
import java.lang.reflect.Modifier;
import java.util.Arrays;
import java.util.Set;
import java.util.TreeSet;

/** The public face: just the members that the document names, and none that others can see beside them. */
public final class FaceTest extends Check {
    public static void main(String[] args) {
        runTests(FaceTest.class);
    }

    static void modifiers() {
        due(Modifier.toString(WordTerms.class.getModifiers()), "public final");
    }

    static void constants() {
        due(WordTerms.REFUSED, -1);
        due(WordTerms.NONE, -2);
        due(WordTerms.FULL, -3);
    }

    static void methods() {
        Set<String> seen = new TreeSet<>();
        for (Method method : WordTerms.class.getDeclaredMethods()) {
            if (isSeen(method)) {
                seen.add(Modifier.toString(method.getModifiers()) + " " + method.getReturnType() + " "
                        + method.getName() + parameters(method.getParameterTypes()));
            }
        }
        Set<String> due = new TreeSet<>(Arrays.asList(
                "public int feed[int, int, int, int, int]", "public int end[int]", "public int read[]",
                "public int sign[int, int]", "public int different[]", "public int first[int]",
                "public int compare[int, int]", "public int apart[int]", "public int nearest[]",
                "public int plain[]"));
        due("methods", seen, due);
    }

    static void noPrivateMethodBearsAPublicName() {
        Set<String> names = new TreeSet<>();
        for (Method method : WordTerms.class.getMethods()) {
            names.add(method.getName());
        }
        for (Method method : WordTerms.class.getDeclaredMethods()) {
            boolean hidden = Modifier.isPrivate(method.getModifiers());
            due(method.getName() + " private too", hidden && names.contains(method.getName()), false);
        }
    }

    static void constructors() {
        Set<String> seen = new TreeSet<>();
        for (Constructor<?> constructor : WordTerms.class.getDeclaredConstructors()) {
            seen.add(Modifier.toString(constructor.getModifiers()) + parameters(constructor.getParameterTypes()));
        }
        due("constructors", seen, Set.of("public[]"));
    }

    static void fields() {
        Set<String> seen = new TreeSet<>();
        for (Field field : WordTerms.class.getDeclaredFields()) {
            if (isSeen(field)) {
                seen.add(Modifier.toString(field.getModifiers()) + " " + field.getType() + " " + field.getName());
            }
        }
        due("fields", seen, new TreeSet<>(Arrays.asList("public static final int REFUSED",
                "public static final int NONE", "public static final int FULL")));
    }

    private static boolean isSeen(Member member) {
        return !Modifier.isPrivate(member.getModifiers()) && !member.isSynthetic();
    }

    private static String parameters(Class<?>[] types) {
        return Arrays.toString(types);
    }
}
