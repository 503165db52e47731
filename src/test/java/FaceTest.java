import java.lang.reflect.Constructor;
import java.lang.reflect.Field;
import java.lang.reflect.Member;
import java.lang.reflect.Method;
import java.lang.reflect.Modifier;
import java.util.ArrayList;
import java.util.Collections;
import java.util.List;

/** The public face: the document's constructor and methods, and no other member that is not private. */
public final class FaceTest {
    private static final String[] DUE = {
        "double error(int) IndexOutOfBoundsException",
        "int addHalo(int int int int) IllegalArgumentException IllegalStateException",
        "int advise(int) IndexOutOfBoundsException",
        "int align(int int) IndexOutOfBoundsException IllegalArgumentException IllegalStateException",
        "int blame(int) IndexOutOfBoundsException",
        "int build(int int int) IllegalArgumentException IllegalStateException",
        "int clear(int) IndexOutOfBoundsException",
        "int clock(int int) IndexOutOfBoundsException IllegalArgumentException",
        "int cloud(int int int) IndexOutOfBoundsException IllegalArgumentException IllegalStateException",
        "int comes(int int) IndexOutOfBoundsException",
        "int correct(int int) IndexOutOfBoundsException IllegalArgumentException",
        "int count(int) IndexOutOfBoundsException",
        "int guess(int int) IndexOutOfBoundsException",
        "int halo(int int) IndexOutOfBoundsException",
        "int order(int int) IndexOutOfBoundsException",
        "int reading(int int) IndexOutOfBoundsException",
        "int spread(int) IllegalArgumentException",
        "int station(int int) IndexOutOfBoundsException",
        "int wire(int int int) IndexOutOfBoundsException IllegalArgumentException",
        "long digest()",
    };

    private FaceTest() {
    }

    public static void main(String[] args) {
        Class<SundogLine> face = SundogLine.class;
        Check.same("the class", Modifier.toString(face.getModifiers()), "public final");
        List<String> methods = new ArrayList<>();
        for (Method m : face.getDeclaredMethods()) {
            if (isOpen(m)) {
                Check.same("how " + m.getName() + " is declared", Modifier.toString(m.getModifiers()), "public");
                methods.add(signature(m));
            } else {
                Check.same("private ones named " + m.getName() + " like the face's", isNamedInFace(m) ? 1 : 0, 0);
            }
        }
        Collections.sort(methods);
        Check.same("the methods", String.join("\n", methods), String.join("\n", DUE));
        for (Constructor<?> c : face.getDeclaredConstructors()) {
            Check.same("the constructor", c.toString(), "public SundogLine()");
        }
        Check.same("constructors", face.getDeclaredConstructors().length, 1);
        for (Field f : face.getDeclaredFields()) {
            Check.same("open field " + f.getName(), isOpen(f) ? 1 : 0, 0);
        }
        Check.report();
    }

    private static boolean isOpen(Member member) {
        return !Modifier.isPrivate(member.getModifiers()) && !member.isSynthetic();
    }

    private static boolean isNamedInFace(Method method) {
        for (String due : DUE) {
            if (due.contains(" " + method.getName() + "(")) {
                return true;
            }
        }
        return false;
    }

    private static String signature(Method method) {
        String text = method.getReturnType() + " " + method.getName() + "(" + names(method.getParameterTypes()) + ")";
        return method.getExceptionTypes().length == 0 ? text : text + " " + names(method.getExceptionTypes());
    }

    private static String names(Class<?>[] types) {
        List<String> names = new ArrayList<>();
        for (Class<?> type : types) {
            names.add(type.getSimpleName());
        }
        return String.join(" ", names);
    }
}
