import java.lang.reflect.InvocationTargetException;
import java.lang.reflect.Method;
import java.util.Arrays;
import java.util.Comparator;
import java.util.List;

/**
 * Calls with arguments of every size, far more of them than an object is used for: none may throw
 * an exception that is not exactly one of its throws clause, and one that throws changes nothing.
 */
public final class AnyArgumentRuns {
    private static final int RUNS = 60;
    private static final int CALLS = 2000;
    private static final int[] ODD = {
        Integer.MIN_VALUE, Integer.MIN_VALUE + 1, -1000, -2, -1, 40, 41, 50, 51, 99, 100, 101, 200,
        201, 500, 501, 1000, Integer.MAX_VALUE - 1, Integer.MAX_VALUE,
    };

    private static final Check check = new Check();

    private final Method[] methods;
    private long seed;

    private AnyArgumentRuns(int run) {
        seed = run;
        methods = Arrays.stream(MessageCentre.class.getMethods())
                .filter(method -> method.getDeclaringClass() == MessageCentre.class)
                .sorted(Comparator.comparing(Method::getName)).toArray(Method[]::new);
    }

    public static void main(String[] args) throws ReflectiveOperationException {
        for (int run = 0; run < RUNS; run++) {
            new AnyArgumentRuns(run).calls();
        }
        check.end("AnyArgumentRuns");
    }

    private int any(int bound) {
        seed = seed * 6364136223846793005L + 1442695040888963407L;
        return (int) ((seed >>> 33) % bound);
    }

    private Object anyArgument(Class<?> type) {
        if (type == boolean.class) {
            return any(2) == 1;
        }
        return any(8) == 0 ? ODD[any(ODD.length)] : any(4 + any(8));
    }

    private void calls() throws ReflectiveOperationException {
        MessageCentre x = new MessageCentre();
        String before = Told.of(x);
        for (int i = 0; i < CALLS; i++) {
            Method method = methods[any(methods.length)];
            Object[] arguments = Arrays.stream(method.getParameterTypes()).map(this::anyArgument).toArray();
            boolean threw = throwsAsDeclared(x, method, arguments);
            String after = Told.of(x);
            if (threw) {
                check.equal(method + Arrays.toString(arguments) + " throws and changes nothing", 1,
                        before.equals(after) ? 1 : 0);
            }
            before = after;
        }
    }

    private static boolean throwsAsDeclared(MessageCentre x, Method method, Object[] arguments)
            throws IllegalAccessException {
        try {
            method.invoke(x, arguments);
            return false;
        } catch (InvocationTargetException thrown) {
            List<Class<?>> declared = List.of(method.getExceptionTypes());
            Throwable cause = thrown.getCause();
            boolean asDeclared = declared.contains(cause.getClass()) && Check.isThrownByTheProgram(cause);
            check.equal(method + Arrays.toString(arguments) + " threw " + cause, 1, asDeclared ? 1 : 0);
            return true;
        }
    }
}
