import java.lang.reflect.Constructor;
import java.lang.reflect.Field;
import java.lang.reflect.Method;
import java.lang.reflect.Modifier;
import java.util.Arrays;
import java.util.TreeSet;

/** The class as the document's public face gives it, and nothing else to be seen. */
public final class FaceTest {
    /** Of each method: what it returns, its name, how many ints it takes, and what it throws. */
    private static final String[] METHODS = {
        "int session 3 BAS", "int splice 5 BAS", "void shed 1 BS", "int bake 1 BS", "int fire 1 B",
        "int tapeIs 2 BA", "int heard 2 BA", "int takes 1 B", "int takesAnew 1 B", "boolean isLost 1 B",
        "int add 1 BS", "int clear 0 ", "int cut 1 AS", "int seconds 2 B", "int stamper 3 BS",
        "int press 4 BAS", "int stamperIs 4 BA", "int sell 4 BAS", "int back 4 BAS", "int disc 3 BS",
        "int play 3 BA", "int scratch 2 B", "int noise 2 B", "int grade 1 B", "int join 2 BAS",
        "int file 1 AS", "int repair 1 BS", "int undo 0 S", "int fileIs 1 B", "int contract 3 BA",
        "int account 1 B", "int accountAnew 1 B", "int payOut 1 B", "int pass 1 AS",
    };

    public static void main(String[] args) {
        constants();
        theClass();
        methods();
        otherMembers();
        Due.end("FaceTest");
    }

    private static void constants() {
        Due.is("NONE", -1, () -> MatrixHouse.NONE);
        Due.is("GOOD", 0, () -> MatrixHouse.GOOD);
        Due.is("SHEDS", 1, () -> MatrixHouse.SHEDS);
        Due.is("BAKED", 2, () -> MatrixHouse.BAKED);
        Due.is("GONE", 3, () -> MatrixHouse.GONE);
    }

    private static void theClass() {
        int modifiers = MatrixHouse.class.getModifiers();
        Due.holds("public final", Modifier.isPublic(modifiers) && Modifier.isFinal(modifiers));
        Constructor<?>[] constructors = MatrixHouse.class.getDeclaredConstructors();
        Due.holds("one constructor without arguments",
                constructors.length == 1 && constructors[0].getParameterCount() == 0
                && Modifier.isPublic(constructors[0].getModifiers()));
    }

    private static void methods() {
        TreeSet<String> wanted = new TreeSet<>(Arrays.asList(METHODS));
        TreeSet<String> seen = new TreeSet<>();
        TreeSet<String> names = new TreeSet<>();
        for (Method method : MatrixHouse.class.getDeclaredMethods()) {
            if (Modifier.isPublic(method.getModifiers()) && !Modifier.isStatic(method.getModifiers())) {
                seen.add(shape(method));
                names.add(method.getName());
            }
        }
        Due.compare("the public methods", wanted.toString(), seen.toString());
        for (Method method : MatrixHouse.class.getDeclaredMethods()) {
            if (!Modifier.isPublic(method.getModifiers())) {
                Due.holds(method + " is private", Modifier.isPrivate(method.getModifiers()));
                Due.holds(method + " has a name of its own", !names.contains(method.getName()));
            }
        }
        for (Class<?> inside : MatrixHouse.class.getDeclaredClasses()) {
            for (Method method : inside.getDeclaredMethods()) {
                Due.holds(method + " has a name of its own", !names.contains(method.getName()));
            }
        }
    }

    private static String shape(Method method) {
        StringBuilder shape = new StringBuilder();
        shape.append(method.getReturnType().getName()).append(' ').append(method.getName()).append(' ');
        shape.append(method.getParameterCount()).append(' ');
        for (Class<?> type : method.getParameterTypes()) {
            shape.append(type == int.class ? "" : type.getName());
        }
        for (Class<?> thrown : method.getExceptionTypes()) {
            shape.append(thrown == IndexOutOfBoundsException.class ? "B"
                    : thrown == IllegalArgumentException.class ? "A"
                    : thrown == IllegalStateException.class ? "S" : thrown.getName());
        }
        return shape.toString();
    }

    private static void otherMembers() {
        TreeSet<String> seen = new TreeSet<>();
        for (Field field : MatrixHouse.class.getDeclaredFields()) {
            if (!Modifier.isPrivate(field.getModifiers())) {
                seen.add(field.getName());
            } else if (Modifier.isStatic(field.getModifiers())) {
                Due.holds(field + " is final", Modifier.isFinal(field.getModifiers()));
            }
        }
        Due.compare("the public fields", "[BAKED, GONE, GOOD, NONE, SHEDS]", seen.toString());
        for (Class<?> inside : MatrixHouse.class.getDeclaredClasses()) {
            int modifiers = inside.getModifiers();
            Due.holds(inside + " is not public",
                    !Modifier.isPublic(modifiers) && !Modifier.isProtected(modifiers));
            Due.holds(inside + " is static", Modifier.isStatic(modifiers));
            Due.holds(inside + " has some twenty fields", inside.getDeclaredFields().length <= 20);
        }
        Due.holds("some twelve classes", MatrixHouse.class.getDeclaredClasses().length <= 12);
    }
}
