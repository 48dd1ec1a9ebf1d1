import java.lang.reflect.InvocationTargetException;
import java.lang.reflect.Method;
import java.util.Arrays;
import java.util.HashMap;
import java.util.Map;

/** One call of the register's face, which can be made on any register, and on the model of one. */
final class Call {
    private static final Map<Class<?>, Map<String, Method>> FACES =
            Map.of(QuotaRegister.class, face(QuotaRegister.class), PlainRegister.class, face(PlainRegister.class));

    private final String name;
    private final Object[] arguments;

    private Call(String name, Object[] arguments) {
        this.name = name;
        this.arguments = arguments;
    }

    private static Map<String, Method> face(Class<?> of) {
        Map<String, Method> face = new HashMap<>();
        for (Method method : of.getMethods()) {
            face.put(method.getName(), method);
        }
        return face;
    }

    static Call of(String name, Object... arguments) {
        return new Call(name, arguments);
    }

    /** Of a text such as "land(1, 0, 3, 2, MAX, false)". */
    static Call read(String text) {
        int bracket = text.indexOf('(');
        String inside = text.substring(bracket + 1, text.lastIndexOf(')')).trim();
        String[] words = inside.isEmpty() ? new String[0] : inside.split(",");
        Object[] arguments = Arrays.stream(words).map(word -> argument(word.trim())).toArray();
        return of(text.substring(0, bracket).trim(), arguments);
    }

    private static Object argument(String word) {
        switch (word) {
            case "true":
                return true;
            case "false":
                return false;
            case "MIN":
                return Integer.MIN_VALUE;
            case "MAX":
                return Integer.MAX_VALUE;
            default:
                return Integer.valueOf(word);
        }
    }

    /** What a register answers: a number, nothing, or "throws" and the exception's name. */
    String on(Object register) {
        try {
            Object answer = FACES.get(register.getClass()).get(name).invoke(register, arguments);
            return answer == null ? "nothing" : answer.toString();
        } catch (InvocationTargetException e) {
            return "throws " + e.getCause().getClass().getSimpleName();
        } catch (IllegalAccessException e) {
            throw new IllegalStateException(e);
        }
    }

    /** Whether it only asks. */
    boolean isQuestion() {
        switch (name) {
            case "account":
            case "levy":
            case "held":
            case "event":
            case "about":
                return true;
            default:
                return false;
        }
    }

    @Override
    public String toString() {
        String inside = Arrays.toString(arguments);
        return name + "(" + inside.substring(1, inside.length() - 1) + ")";
    }
}
