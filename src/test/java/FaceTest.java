import java.lang.reflect.Constructor;
import java.lang.reflect.Field;
import java.lang.reflect.Method;
import java.lang.reflect.Modifier;
import java.util.Arrays;
import java.util.Set;
import java.util.TreeSet;

/** The public face is the document's, and no more (LANGUAGE.md, rules 1 and 5). */
public final class FaceTest {
    private static final Set<String> DUE = new TreeSet<>(Arrays.asList(
            "int append(int, int, int, long) [IllegalStateException]",
            "int rows() []",
            "long cell(int, int) [IllegalArgumentException, IndexOutOfBoundsException]",
            "int where(int, int, long) [IllegalArgumentException, IllegalStateException]",
            "int all() []",
            "int chosen() []",
            "int row(int) [IndexOutOfBoundsException]",
            "int blocks() []",
            "long sum(int) [IllegalArgumentException]",
            "long bound(int, boolean) [IllegalArgumentException, NoSuchElementException]",
            "int ranked(int, int) [IllegalArgumentException, IndexOutOfBoundsException]",
            "int groups(int) [IllegalArgumentException]",
            "long group(int, int, int, int) [IllegalArgumentException, IndexOutOfBoundsException]",
            "int pairs(int, int) [IllegalArgumentException]",
            "int way(int, int) [IllegalArgumentException, IndexOutOfBoundsException]",
            "int bits(int, int) [IllegalArgumentException, IndexOutOfBoundsException]",
            "int purge() []"));

    private static int wrong = 0;

    private static void check(String what, boolean right) {
        if (!right) {
            wrong++;
            System.out.println("wrong: " + what);
        }
    }

    private static String names(Class<?>[] types) {
        StringBuilder text = new StringBuilder();
        for (Class<?> type : types) {
            text.append(text.length() == 0 ? "" : ", ").append(type.getSimpleName());
        }
        return text.toString();
    }

    private static String written(Method method) {
        return method.getReturnType().getSimpleName() + " " + method.getName()
                + "(" + names(method.getParameterTypes()) + ") [" + names(method.getExceptionTypes()) + "]";
    }

    private static void checkMethods() {
        Set<String> found = new TreeSet<>();
        Set<String> publicNames = new TreeSet<>();
        for (Method method : ColumnHall.class.getDeclaredMethods()) {
            if (Modifier.isPublic(method.getModifiers())) {
                found.add(written(method));
                publicNames.add(method.getName());
                check(method + " is static", !Modifier.isStatic(method.getModifiers()));
            }
        }
        check("public methods are " + found, found.equals(DUE));
        for (Method method : ColumnHall.class.getDeclaredMethods()) {
            if (!Modifier.isPublic(method.getModifiers())) {
                check(method + " is not private", Modifier.isPrivate(method.getModifiers()));
                check(method + " bears a public name", !publicNames.contains(method.getName()));
                check(method + " has over seven parameters", method.getParameterCount() <= 7);
            }
        }
    }

    private static void checkFields() {
        for (Field field : ColumnHall.class.getDeclaredFields()) {
            int modifiers = field.getModifiers();
            check(field + " is not private", Modifier.isPrivate(modifiers));
            check(field + " is static, not final", !Modifier.isStatic(modifiers) || Modifier.isFinal(modifiers));
        }
    }

    public static void main(String[] args) {
        int modifiers = ColumnHall.class.getModifiers();
        check("the class is not public and final", Modifier.isPublic(modifiers) && Modifier.isFinal(modifiers));
        Constructor<?>[] constructors = ColumnHall.class.getDeclaredConstructors();
        check("there is not one constructor", constructors.length == 1);
        check("the constructor is not public and without parameters",
                Modifier.isPublic(constructors[0].getModifiers()) && constructors[0].getParameterCount() == 0);
        checkMethods();
        checkFields();
        System.out.println(wrong == 0 ? "the face is as due" : wrong + " things are wrong");
        if (wrong != 0) {
            System.exit(1);
        }
    }
}
