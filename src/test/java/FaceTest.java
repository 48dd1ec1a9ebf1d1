import java.lang.reflect.Constructor;
import java.lang.reflect.Field;
import java.lang.reflect.Method;
import java.lang.reflect.Modifier;
import java.util.ArrayList;
import java.util.HashSet;
import java.util.List;
import java.util.Set;
import java.util.TreeSet;

/** The face is the document's, to the letter, and nothing else can be seen from outside. */
public final class FaceTest {
    private static final String A = " throws IllegalArgumentException";
    private static final String AS = " throws IllegalArgumentException, IllegalStateException";
    static final String[] FACE = {
        "void species(int, int, int)" + A,
        "void factor(int, int, int)" + A,
        "void vessel(int, int)" + AS,
        "void link(int, int)" + AS,
        "void unlink(int, int)" + AS,
        "int issue(int, int, int)" + AS,
        "void sell(int, int, int, int)" + AS,
        "int place(int, int, int)" + AS,
        "int open(int, int, int, int)" + AS,
        "int end() throws IllegalStateException",
        "int lease(int, int, int, int)" + AS,
        "int land(int, int, int, int, int, boolean)" + AS,
        "int equivalent(int, int, int, int)" + AS,
        "void strike(int) throws IndexOutOfBoundsException, IllegalStateException",
        "void reopen(int)" + AS,
        "int account(int, int, int, int)" + A,
        "long levy(int, int)" + A,
        "int held(int, int, int)" + A,
        "int event(int, int) throws IndexOutOfBoundsException, IllegalArgumentException",
        "int about(int)" + A,
    };

    private int wrong = 0;

    public static void main(String[] args) {
        FaceTest test = new FaceTest();
        test.sameFace();
        test.nothingElseIsSeen();
        if (QuotaRegister.NONE != -1) {
            test.complain("NONE is " + QuotaRegister.NONE);
        }
        System.exit(test.wrong == 0 ? 0 : 1);
    }

    private void complain(String what) {
        wrong++;
        System.out.println(what);
    }

    private void sameFace() {
        Set<String> seen = new TreeSet<>();
        for (Method method : QuotaRegister.class.getDeclaredMethods()) {
            if (!Modifier.isPrivate(method.getModifiers())) {
                seen.add(written(method));
            }
        }
        Set<String> face = new TreeSet<>(List.of(FACE));
        if (!seen.equals(face)) {
            complain("the methods are " + seen + ", due are " + face);
        }
        int modifiers = QuotaRegister.class.getModifiers();
        if (!Modifier.isPublic(modifiers) || !Modifier.isFinal(modifiers)) {
            complain("the class is not public and final");
        }
    }

    private void nothingElseIsSeen() {
        for (Field field : QuotaRegister.class.getDeclaredFields()) {
            if (!Modifier.isPrivate(field.getModifiers()) && !field.getName().equals("NONE")) {
                complain("field " + field.getName() + " can be seen");
            }
        }
        for (Constructor<?> constructor : QuotaRegister.class.getDeclaredConstructors()) {
            if (constructor.getParameterCount() != 0 || !Modifier.isPublic(constructor.getModifiers())) {
                complain("another constructor: " + constructor);
            }
        }
        Set<String> names = new HashSet<>();
        List<String> hidden = new ArrayList<>();
        for (Method method : QuotaRegister.class.getDeclaredMethods()) {
            if (Modifier.isPrivate(method.getModifiers())) {
                hidden.add(method.getName());
            } else {
                names.add(method.getName());
            }
        }
        for (String name : hidden) {
            if (names.contains(name)) {
                complain("a private method bears the public name " + name);
            }
        }
    }

    private static String written(Method method) {
        return method.getReturnType().getSimpleName() + " " + method.getName()
                + "(" + names(method.getParameterTypes()) + ") throws " + names(method.getExceptionTypes());
    }

    private static String names(Class<?>[] types) {
        List<String> names = new ArrayList<>();
        for (Class<?> type : types) {
            names.add(type.getSimpleName());
        }
        return String.join(", ", names);
    }
}
