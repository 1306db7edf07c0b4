import java.lang.reflect.InvocationTargetException;
import java.lang.reflect.Method;
import java.lang.reflect.Modifier;
import java.util.Arrays;
import java.util.Comparator;

/** What a class of tests extends: it runs the tests and counts the answers that are not as due. */
abstract class Check {
    static final int REFUSED = WordTerms.REFUSED, NONE = WordTerms.NONE, FULL = WordTerms.FULL;
    static final int LOWEST = Integer.MIN_VALUE, HIGHEST = Integer.MAX_VALUE;

    // One fault can make thousands of answers wrong in long runs: the first of them are enough to find it.
    private static final int MAX_TOLD = 40;

    private static String running = "";
    private static int wrong = 0;

    static void due(Object got, Object want) {
        due("it", got, want);
    }

    static void due(String what, Object got, Object want) {
        if (!got.equals(want)) {
            wrong(what + " answered " + got + ", due is " + want);
        }
    }

    /** Every static method that is not private and takes nothing is a test, so that none is forgotten in a list. */
    static void runTests(Class<?> tests) {
        Method[] methods = tests.getDeclaredMethods();
        Arrays.sort(methods, Comparator.comparing(Method::getName));
        int ran = 0;
        for (Method method : methods) {
            if (isTest(method)) {
                runTest(tests.getName(), method);
                ran++;
            }
        }
        System.out.println(tests.getName() + ": " + ran + " tests, " + wrong + " answers not as due");
        if (wrong != 0 || ran == 0) {
            System.exit(1);
        }
    }

    private static boolean isTest(Method method) {
        int modifiers = method.getModifiers();
        return Modifier.isStatic(modifiers) && !Modifier.isPrivate(modifiers) && method.getParameterCount() == 0;
    }

    private static void runTest(String tests, Method method) {
        running = tests + "." + method.getName();
        try {
            method.invoke(null);
        } catch (InvocationTargetException thrown) {
            wrong("threw " + thrown.getCause());
        } catch (IllegalAccessException hidden) {
            wrong("can't be called: " + hidden);
        }
    }

    private static void wrong(String what) {
        wrong++;
        if (wrong <= MAX_TOLD) {
            System.out.println(running + lineOfTest() + ": " + what);
        }
    }

    private static String lineOfTest() {
        for (StackTraceElement call : new Throwable().getStackTrace()) {
            if (running.equals(call.getClassName() + "." + call.getMethodName())) {
                return ", line " + call.getLineNumber();
            }
        }
        return "";
    }
}
