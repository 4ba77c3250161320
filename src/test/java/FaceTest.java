import java.lang.reflect.Constructor;
import java.lang.reflect.Field;
import java.lang.reflect.Member;
import java.lang.reflect.Method;
import java.lang.reflect.Modifier;
import java.util.Set;
import java.util.TreeSet;

/** The class has the face of the document, and nothing else of it can be seen from outside. */
public final class FaceTest {
    private static final String[] METHODS = {
        "int draft(int, int, int, boolean) throws IndexOutOfBoundsException, IllegalArgumentException",
        "void setOptions(int, int, int, boolean) throws IndexOutOfBoundsException, IllegalArgumentException",
        "int setRate(int, int, int) throws IndexOutOfBoundsException, IllegalArgumentException",
        "int submit(int, int, int, int) throws IndexOutOfBoundsException, IllegalArgumentException,"
                + " IllegalStateException",
        "int delete(int) throws IndexOutOfBoundsException, IllegalStateException",
        "int messages()",
        "int state(int) throws IndexOutOfBoundsException",
        "int stateByLog(int) throws IndexOutOfBoundsException",
        "int parts(int) throws IndexOutOfBoundsException",
        "int lettersIn(int, int) throws IndexOutOfBoundsException",
        "int delivered(int) throws IndexOutOfBoundsException",
        "int attempts(int) throws IndexOutOfBoundsException",
        "int due(int) throws IndexOutOfBoundsException, IllegalStateException",
        "int setMode(int, int) throws IndexOutOfBoundsException, IllegalArgumentException",
        "int setRoom(int, int) throws IndexOutOfBoundsException, IllegalArgumentException",
        "int read(int, int) throws IndexOutOfBoundsException, IllegalArgumentException",
        "int inRoom(int) throws IndexOutOfBoundsException",
        "int marks(int) throws IndexOutOfBoundsException",
        "int waiting(int) throws IndexOutOfBoundsException",
        "int next(int) throws IndexOutOfBoundsException",
        "int pass(int) throws IllegalArgumentException",
        "int now()",
        "int receipts(int) throws IndexOutOfBoundsException",
        "int takeReceipt(int) throws IndexOutOfBoundsException, IllegalStateException",
        "float share()",
    };
    private static final String[] CONSTANTS = {
        "NONE", "WAITING", "DELIVERED", "EXPIRED", "DELETED", "REFUSED",
        "PRESENT", "ABSENT", "BUSY", "BARRED",
    };

    private static final Check check = new Check();

    public static void main(String[] args) {
        int classModifiers = MessageCentre.class.getModifiers();
        check.equal("public and final", Modifier.PUBLIC | Modifier.FINAL, classModifiers);
        same("methods", Set.of(METHODS), methods());
        same("constants", Set.of(CONSTANTS), constants());
        oneConstructor();
        nestedClasses();
        check.end("FaceTest");
    }

    private static void same(String what, Set<String> want, Set<String> got) {
        for (String one : want) {
            check.equal(what + " has " + one, 1, got.contains(one) ? 1 : 0);
        }
        for (String one : got) {
            check.equal(what + " has only what is due, so not " + one, 1, want.contains(one) ? 1 : 0);
        }
    }

    private static boolean isPrivate(Member member) {
        return Modifier.isPrivate(member.getModifiers());
    }

    private static Set<String> methods() {
        Set<String> found = new TreeSet<>();
        for (Method method : MessageCentre.class.getDeclaredMethods()) {
            if (!isPrivate(method)) {
                check.equal(method + " is just public", Modifier.PUBLIC, method.getModifiers());
                found.add(signature(method));
            }
        }
        return found;
    }

    private static String signature(Method method) {
        String text = method.getReturnType() + " " + method.getName()
                + "(" + names(method.getParameterTypes()) + ")";
        return method.getExceptionTypes().length == 0
                ? text : text + " throws " + names(method.getExceptionTypes());
    }

    private static String names(Class<?>[] types) {
        StringBuilder text = new StringBuilder();
        for (Class<?> type : types) {
            text.append(text.length() == 0 ? "" : ", ").append(type.getSimpleName());
        }
        return text.toString();
    }

    private static Set<String> constants() {
        Set<String> found = new TreeSet<>();
        for (Field field : MessageCentre.class.getDeclaredFields()) {
            if (!isPrivate(field)) {
                check.equal(field + " is a constant", Modifier.PUBLIC | Modifier.STATIC | Modifier.FINAL,
                        field.getModifiers());
                check.equal(field + " is an int", 1, field.getType() == int.class ? 1 : 0);
                found.add(field.getName());
            }
        }
        return found;
    }

    private static void oneConstructor() {
        Constructor<?>[] constructors = MessageCentre.class.getDeclaredConstructors();
        check.equal("constructors", 1, constructors.length);
        check.equal("a public constructor", Modifier.PUBLIC, constructors[0].getModifiers());
        check.equal("without arguments", 0, constructors[0].getParameterCount());
    }

    private static void nestedClasses() {
        for (Class<?> nested : MessageCentre.class.getDeclaredClasses()) {
            int modifiers = nested.getModifiers();
            check.equal(nested + " is static", 1, Modifier.isStatic(modifiers) ? 1 : 0);
            check.equal(nested + " is hidden", 0, modifiers & (Modifier.PUBLIC | Modifier.PROTECTED));
        }
    }
}
