import java.lang.reflect.Constructor;
import java.lang.reflect.Field;
import java.lang.reflect.Method;
import java.lang.reflect.Modifier;
import java.util.Arrays;
import java.util.Set;
import java.util.TreeSet;

/** The public face: every constant, constructor and method with its throws clause, and no other. */
public final class FaceTest {
    private static final String[] METHODS = {
        "int addShip() throws IllegalStateException",
        "int call(int,int,int,int) throws IndexOutOfBoundsException IllegalArgumentException IllegalStateException",
        "int tell(int,int) throws IndexOutOfBoundsException IllegalStateException",
        "int shipAt(int) throws IndexOutOfBoundsException",
        "int routes(int) throws IndexOutOfBoundsException",
        "int word(int,int) throws IndexOutOfBoundsException",
        "int behind(int) throws IndexOutOfBoundsException",
        "int post(int,int,int) throws IndexOutOfBoundsException IllegalStateException",
        "int strike(int,int) throws IndexOutOfBoundsException IllegalArgumentException",
        "boolean isClosed(int) throws IndexOutOfBoundsException",
        "int pass(int) throws IllegalArgumentException IllegalStateException",
        "int today() throws",
        "int letters() throws",
        "int state(int) throws IndexOutOfBoundsException",
        "int where(int) throws IndexOutOfBoundsException",
        "int whereByMarks(int) throws IndexOutOfBoundsException",
        "int comesTo(int) throws IndexOutOfBoundsException",
        "int sentOn(int) throws IndexOutOfBoundsException",
        "int overtaken(int) throws IndexOutOfBoundsException",
        "int lying(int) throws IndexOutOfBoundsException",
        "int deadAt(int) throws IndexOutOfBoundsException",
        "int deliveredAs(int,int) throws IndexOutOfBoundsException IllegalArgumentException",
        "int marks(int) throws IndexOutOfBoundsException",
        "char markAt(int,int) throws IndexOutOfBoundsException",
        "int written(int,int) throws IndexOutOfBoundsException",
    };

    private static final String[] CONSTANTS = {
        "NONE -1", "SEA -2", "ABOARD -3", "OFFICE -4", "HELD 0", "DELIVERED 1", "WAITS 2", "AT_SEA 3", "LOST 4",
        "DEAD 5", "RETURNED 6", "BURNT 7",
    };

    public static void main(String[] args) throws IllegalAccessException {
        Check.is("public and final", SeaPost.class.getModifiers(), Modifier.PUBLIC | Modifier.FINAL);
        methods();
        constants();
        constructors();
        Check.end();
    }

    private static void methods() {
        Set<String> names = new TreeSet<>();
        Set<String> open = new TreeSet<>();
        for (Method method : SeaPost.class.getDeclaredMethods()) {
            if (!Modifier.isPrivate(method.getModifiers())) {
                Check.is(method + " is public alone", method.getModifiers(), Modifier.PUBLIC);
                open.add(text(method));
                names.add(method.getName());
            }
        }
        Check.is("the methods", open.toString(), new TreeSet<>(Arrays.asList(METHODS)).toString());
        checkNames(SeaPost.class, names);
        for (Class<?> inside : SeaPost.class.getDeclaredClasses()) {
            Check.is(inside + " is not open", Modifier.isPublic(inside.getModifiers()), false);
            Check.is(inside + " is static", Modifier.isStatic(inside.getModifiers()), true);
            checkNames(inside, names);
        }
    }

    /** LANGUAGE.md, rule 1: no private method bears the name of a public one. */
    private static void checkNames(Class<?> type, Set<String> names) {
        for (Method method : type.getDeclaredMethods()) {
            boolean open = Modifier.isPublic(method.getModifiers());
            Check.is(method + " has a name of its own", open || !names.contains(method.getName()), true);
        }
    }

    private static String text(Method method) {
        StringBuilder text = new StringBuilder();
        text.append(method.getReturnType().getName()).append(' ').append(method.getName()).append('(');
        Class<?>[] types = method.getParameterTypes();
        for (int i = 0; i < types.length; i++) {
            text.append(i > 0 ? "," : "").append(types[i].getName());
        }
        text.append(") throws");
        for (Class<?> type : method.getExceptionTypes()) {
            text.append(' ').append(type.getSimpleName());
        }
        return text.toString();
    }

    private static void constants() throws IllegalAccessException {
        Set<String> open = new TreeSet<>();
        for (Field field : SeaPost.class.getDeclaredFields()) {
            if (!Modifier.isPrivate(field.getModifiers())) {
                int due = Modifier.PUBLIC | Modifier.STATIC | Modifier.FINAL;
                Check.is(field + " is a constant", field.getModifiers(), due);
                Check.is(field + " is an int", field.getType() == int.class, true);
                open.add(field.getName() + " " + field.getInt(null));
            }
        }
        Check.is("the constants", open.toString(), new TreeSet<>(Arrays.asList(CONSTANTS)).toString());
    }

    private static void constructors() {
        Constructor<?>[] all = SeaPost.class.getDeclaredConstructors();
        Check.is("constructors", all.length, 1);
        Check.is("the constructor is public", all[0].getModifiers(), Modifier.PUBLIC);
        Check.is("the constructor takes nothing", all[0].getParameterCount(), 0);
        Check.is("the constructor throws nothing", all[0].getExceptionTypes().length, 0);
    }
}
