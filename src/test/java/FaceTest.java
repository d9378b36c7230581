import java.lang.reflect.Constructor;
import java.lang.reflect.Field;
import java.lang.reflect.Method;
import java.lang.reflect.Modifier;
import java.util.Arrays;
import java.util.Set;
import java.util.TreeSet;
import java.util.stream.Collectors;

/** The public face: just what the document lists, and nothing else that others can see. */
public final class FaceTest {
    private static final String[] DUE = {
        "int setFrame(int, int) IllegalArgumentException",
        "int addParameter(int) IllegalArgumentException IllegalStateException",
        "int plan()",
        "int samplesPerMajor(int) IndexOutOfBoundsException",
        "int slot(int, int, int) IndexOutOfBoundsException IllegalArgumentException IllegalStateException",
        "int ownerOf(int, int) IndexOutOfBoundsException IllegalStateException",
        "double efficiency() IllegalStateException",
        "int setValue(int, int) IndexOutOfBoundsException IllegalArgumentException",
        "int send(int) IllegalArgumentException IllegalStateException",
        "int pending()",
        "int bit(int) IndexOutOfBoundsException",
        "int disturb(int, int) IllegalArgumentException IndexOutOfBoundsException IllegalStateException",
        "int receive(int) IllegalArgumentException IllegalStateException",
        "int receiverState()",
        "int received(int) IllegalArgumentException",
        "int sample(int) IndexOutOfBoundsException",
        "int samples(int) IndexOutOfBoundsException",
        "int setMode(int) IllegalArgumentException",
        "int setLimits(int, int, int, int) IndexOutOfBoundsException IllegalArgumentException",
        "int setPersistence(int, int) IndexOutOfBoundsException IllegalArgumentException",
        "boolean hasAlarm(int) IndexOutOfBoundsException",
        "int alarms(int) IndexOutOfBoundsException",
        "int undo() IllegalStateException",
        "long digest()",
    };

    public static void main(String[] args) {
        Class<?> face = FrameCommutator.class;
        Checks.same("the class", face.getModifiers(), Modifier.PUBLIC | Modifier.FINAL);
        methods(face);
        constructors(face);
        fields(face);
        classesInside(face);
        Checks.finish("FaceTest");
    }

    private static String names(Class<?>[] classes) {
        return Arrays.stream(classes).map(Class::getSimpleName).collect(Collectors.joining(", "));
    }

    private static String signature(Method method) {
        String thrown = names(method.getExceptionTypes()).replace(",", "");
        String call = method.getReturnType().getSimpleName() + " " + method.getName() + "("
                + names(method.getParameterTypes()) + ")";
        return thrown.isEmpty() ? call : call + " " + thrown;
    }

    private static void methods(Class<?> face) {
        Set<String> publicOnes = new TreeSet<>();
        Set<String> publicNames = new TreeSet<>();
        Set<String> privateNames = new TreeSet<>();
        for (Method method : face.getDeclaredMethods()) {
            if (Modifier.isPrivate(method.getModifiers())) {
                privateNames.add(method.getName());
            } else {
                publicOnes.add(Modifier.toString(method.getModifiers()) + " " + signature(method));
                publicNames.add(method.getName());
            }
        }
        Set<String> due = new TreeSet<>();
        for (String signature : DUE) {
            due.add("public " + signature);
        }
        Checks.same("the methods", publicOnes, due);
        privateNames.retainAll(publicNames);
        Checks.same("private methods with the name of a public one", privateNames, new TreeSet<>());
    }

    private static void constructors(Class<?> face) {
        Constructor<?>[] constructors = face.getDeclaredConstructors();
        Checks.same("constructors", constructors.length, 1);
        Checks.same("its modifiers", constructors[0].getModifiers(), Modifier.PUBLIC);
        Checks.same("its arguments", constructors[0].getParameterCount(), 0);
    }

    private static void fields(Class<?> face) {
        for (Field field : face.getDeclaredFields()) {
            boolean constant = field.getName().equals("NONE");
            String modifiers = Modifier.toString(field.getModifiers());
            if (constant) {
                Checks.same("NONE", modifiers + " " + field.getType(), "public static final int");
            } else {
                Checks.same(field.getName(), Modifier.isPrivate(field.getModifiers()), true);
            }
        }
    }

    private static void classesInside(Class<?> face) {
        for (Class<?> inside : face.getDeclaredClasses()) {
            int modifiers = inside.getModifiers();
            Checks.same(inside + " is static", Modifier.isStatic(modifiers), true);
            Checks.same(inside + " is hidden",
                    Modifier.isPublic(modifiers) || Modifier.isProtected(modifiers), false);
        }
    }
}
