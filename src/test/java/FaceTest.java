import java.lang.reflect.Constructor;
import java.lang.reflect.Field;
import java.lang.reflect.Member;
import java.lang.reflect.Method;
import java.lang.reflect.Modifier;
import java.util.Arrays;
import java.util.List;
import java.util.Set;
import java.util.TreeSet;

/** The class has the document's face, and no other member that can be seen. */
public final class FaceTest {
    private static final List<String> FACE = List.of(
        "int mill(int, int, int) throws IllegalArgumentException, UnsupportedOperationException",
        "int root(long, int, int) throws IllegalArgumentException, UnsupportedOperationException",
        "int over(long, long, int, int) throws IllegalArgumentException, UnsupportedOperationException",
        "int number(long, int) throws IllegalArgumentException",
        "int push(int) throws IllegalArgumentException, UnsupportedOperationException",
        "void keep()",
        "int swap()",
        "int add() throws UnsupportedOperationException",
        "int subtract() throws ArithmeticException",
        "int times() throws UnsupportedOperationException",
        "int divide() throws ArithmeticException",
        "int rooted()",
        "int convert(int) throws IllegalArgumentException",
        "int digit(int) throws IndexOutOfBoundsException",
        "int about(int) throws IllegalArgumentException",
        "int count(int, int, int) throws IndexOutOfBoundsException",
        "int find(long, int, int) throws IllegalArgumentException",
        "int compare()");

    public static void main(String[] args) {
        int modifiers = DigitMill.class.getModifiers();
        Check.due("public and final", true, Modifier.isPublic(modifiers) && Modifier.isFinal(modifiers));
        methods();
        constructors();
        fields();
        innerClasses();
        Check.end("FaceTest");
    }

    private static void methods() {
        Set<String> seen = new TreeSet<>();
        for (Method method : DigitMill.class.getDeclaredMethods()) {
            if (Modifier.isPrivate(method.getModifiers())) {
                bearsNameOfItsOwn(method);
            } else {
                Check.due(method + " is public", true, Modifier.isPublic(method.getModifiers()));
                seen.add(written(method));
            }
        }
        Check.due("methods", new TreeSet<>(FACE), seen);
    }

    private static void bearsNameOfItsOwn(Method method) {
        boolean taken = FACE.stream().anyMatch(face -> face.contains(" " + method.getName() + "("));
        Check.due(method + " bears a public name", false, taken);
    }

    private static String written(Method method) {
        String thrown = simpleNames(method.getExceptionTypes());
        return method.getReturnType().getSimpleName() + " " + method.getName()
            + "(" + simpleNames(method.getParameterTypes()) + ")" + (thrown.isEmpty() ? "" : " throws " + thrown);
    }

    private static String simpleNames(Class<?>[] types) {
        return String.join(", ", Arrays.stream(types).map(Class::getSimpleName).toList());
    }

    private static void constructors() {
        Constructor<?>[] all = DigitMill.class.getDeclaredConstructors();
        Check.due("constructors", 1, all.length);
        Check.due("constructor is public", true, Modifier.isPublic(all[0].getModifiers()));
        Check.due("constructor takes nothing", 0, all[0].getParameterCount());
    }

    private static void fields() {
        for (Field field : DigitMill.class.getDeclaredFields()) {
            boolean hidden = Modifier.isPrivate(field.getModifiers());
            Check.due(field + " is private, or NONE", true, hidden != field.getName().equals("NONE"));
            stays(field);
        }
    }

    private static void innerClasses() {
        for (Class<?> inner : DigitMill.class.getDeclaredClasses()) {
            Check.due(inner + " is static", true, Modifier.isStatic(inner.getModifiers()));
            Check.due(inner + " is not public", false, Modifier.isPublic(inner.getModifiers()));
            for (Field field : inner.getDeclaredFields()) {
                stays(field);
            }
            for (Method method : inner.getDeclaredMethods()) {
                bearsNameOfItsOwn(method);
            }
        }
    }

    private static void stays(Member field) {
        int modifiers = field.getModifiers();
        Check.due(field + ", if static, is final", true, !Modifier.isStatic(modifiers) || Modifier.isFinal(modifiers));
    }
}
