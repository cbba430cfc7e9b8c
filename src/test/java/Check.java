import java.lang.reflect.InvocationTargetException;
import java.lang.reflect.Method;
import java.lang.reflect.Modifier;
import java.util.Arrays;
import java.util.Comparator;

/** Runs the cases of a test, compares answers with those that are due, and prints what differs. */
final class Check {
    /** A call that may throw. */
    interface Call {
        void run();
    }

    private static String testCase = "";
    private static int checks = 0;
    private static int wrong = 0;

    private Check() {
    }

    static void due(String what, long got, long want) {
        checks++;
        if (got != want) {
            fault(what + " answered " + got + ", due is " + want);
        }
    }

    static void yes(String what, boolean got) {
        due(what, got ? 1 : 0, 1);
    }

    static void no(String what, boolean got) {
        due(what, got ? 1 : 0, 0);
    }

    static void throwsState(String what, Call call) {
        throwsExactly(what, IllegalStateException.class, call);
    }

    static void throwsArgument(String what, Call call) {
        throwsExactly(what, IllegalArgumentException.class, call);
    }

    private static void throwsExactly(String what, Class<?> kind, Call call) {
        Class<?> thrown = null;
        try {
            call.run();
        } catch (RuntimeException e) {
            thrown = e.getClass();
        }
        yes(what + " throws " + kind.getSimpleName() + ", not " + thrown, thrown == kind);
    }

    private static void fault(String text) {
        wrong++;
        System.out.println(testCase + text);
    }

    /**
     * Runs a test whose cases are the static methods without parameters and without an answer;
     * then ends it. No case can be forgotten, for none has to be listed.
     */
    static void runCases(Class<?> test) {
        Method[] methods = test.getDeclaredMethods();
        Arrays.sort(methods, Comparator.comparing(Method::getName));
        int cases = 0;
        for (Method method : methods) {
            if (isCase(method)) {
                cases++;
                runCase(method);
            }
        }
        end(test.getSimpleName() + ": " + cases + " cases");
    }

    private static boolean isCase(Method method) {
        return Modifier.isStatic(method.getModifiers()) && !method.isSynthetic()
            && method.getParameterCount() == 0 && method.getReturnType() == void.class;
    }

    private static void runCase(Method method) {
        testCase = method.getDeclaringClass().getSimpleName() + "." + method.getName() + ": ";
        int before = checks;
        try {
            method.invoke(null);
            if (checks == before) {
                fault("nothing was checked");
            }
        } catch (InvocationTargetException e) {
            fault("threw " + e.getCause());
        } catch (IllegalAccessException e) {
            fault("is private, so it was not run");
        }
        testCase = "";
    }

    /** Exit code 1 when an answer was wrong, or when nothing was checked. */
    static void end(String test) {
        System.out.println(test + ", " + checks + " checks, " + wrong + " wrong");
        if (wrong != 0 || checks == 0) {
            System.exit(1);
        }
    }
}
