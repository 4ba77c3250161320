import java.lang.reflect.InvocationTargetException;
import java.lang.reflect.Method;
import java.util.Arrays;
import java.util.Comparator;
import java.util.List;

/**
 * Calls with arguments of every size: none may throw an exception that is not exactly one of its
 * throws clause, and one that throws changes nothing.
 */
public final class AnyArgumentRuns {
    private static final int RUNS = 2000;
    /** What later calls answer is free. */
    private static final int CALLS = 512;
    private static final int LATER_CALLS = 100;
    private static final int[] ODD = {
        Integer.MIN_VALUE, Integer.MIN_VALUE + 1, -1000, -2, -1, 40, 41, 50, 51, 99, 100, 101, 200,
        201, 500, 501, 1000, Integer.MAX_VALUE - 1, Integer.MAX_VALUE,
    };

    private static final Check check = new Check();

    private final Method[] methods;
    private long seed;

    private AnyArgumentRuns(int run) {
        seed = run;
        methods = Arrays.stream(MessageCentre.class.getMethods())
                .filter(method -> method.getDeclaringClass() == MessageCentre.class)
                .sorted(Comparator.comparing(Method::getName)).toArray(Method[]::new);
    }

    public static void main(String[] args) throws ReflectiveOperationException {
        for (int run = 0; run < RUNS; run++) {
            new AnyArgumentRuns(run).calls();
        }
        check.end("AnyArgumentRuns");
    }

    private int any(int bound) {
        seed = seed * 6364136223846793005L + 1442695040888963407L;
        return (int) ((seed >>> 33) % bound);
    }

    private Object anyArgument(Class<?> type) {
        if (type == boolean.class) {
            return any(2) == 1;
        }
        return any(8) == 0 ? ODD[any(ODD.length)] : any(4 + any(8));
    }

    /** A twin that is spared the calls that throw must answer all others alike. */
    private void calls() throws ReflectiveOperationException {
        MessageCentre x = new MessageCentre();
        MessageCentre twin = new MessageCentre();
        for (int i = 0; i < CALLS + LATER_CALLS; i++) {
            Method method = methods[any(methods.length)];
            Object[] arguments = Arrays.stream(method.getParameterTypes()).map(this::anyArgument).toArray();
            Object answer = answerOf(x, method, arguments);
            if (answer instanceof Throwable thrown) {
                checkThrown(method, arguments, thrown, i < CALLS);
            } else if (i < CALLS) {
                Object same = answerOf(twin, method, arguments);
                check.equal(method.getName() + Arrays.toString(arguments), "" + same, "" + answer);
            }
        }
    }

    /** The answer, null for none, or what was thrown. */
    private static Object answerOf(MessageCentre x, Method method, Object[] arguments)
            throws IllegalAccessException {
        try {
            return method.invoke(x, arguments);
        } catch (InvocationTargetException thrown) {
            return thrown.getCause();
        }
    }

    private static void checkThrown(Method method, Object[] arguments, Throwable thrown, boolean promised) {
        boolean declared = !promised || List.of(method.getExceptionTypes()).contains(thrown.getClass());
        boolean asDue = declared && Check.isThrownByTheProgram(thrown);
        check.equal(method + Arrays.toString(arguments) + " threw " + thrown, 1, asDue ? 1 : 0);
    }
}
