import java.lang.reflect.Constructor;
import java.lang.reflect.Field;
import java.lang.reflect.Method;
import java.lang.reflect.Modifier;
import java.util.Arrays;
import java.util.Set;
import java.util.TreeSet;

/** The public face is the document's, with the exceptions that it names, and nothing else can be seen. */
public final class FaceTest {
    private static final String[] METHODS = {
        "int op(int,int,int,int) IndexOutOfBoundsException IllegalArgumentException UnsupportedOperationException",
        "long begin(int,int,int) IndexOutOfBoundsException IllegalArgumentException",
        "int run()",
        "boolean reached(int) IndexOutOfBoundsException IllegalStateException",
        "int pieces(int,int) IndexOutOfBoundsException IllegalStateException",
        "int end(int,int,int,boolean) IndexOutOfBoundsException IllegalStateException",
        "int ways(int) IndexOutOfBoundsException IllegalStateException",
        "int told(int) IllegalArgumentException IllegalStateException",
        "int threshold(int) IndexOutOfBoundsException",
        "int holds(int,int) IllegalArgumentException IllegalStateException",
        "int had(int) IndexOutOfBoundsException",
        "int ended()",
        "int clear()",
        "int size()",
    };

    private FaceTest() {
    }

    public static void main(String[] args) {
        Class<?> face = WholeSpans.class;
        Checks.due("public and final", face.getModifiers(), Modifier.PUBLIC | Modifier.FINAL);
        Set<String> seen = new TreeSet<>();
        Set<String> publicNames = new TreeSet<>();
        for (Method method : face.getDeclaredMethods()) {
            if (!Modifier.isPrivate(method.getModifiers())) {
                seen.add(textOf(method));
                publicNames.add(method.getName());
            }
        }
        Checks.dueText("methods", seen.toString(), new TreeSet<>(Arrays.asList(METHODS)).toString());
        for (Method method : face.getDeclaredMethods()) {
            boolean hides = Modifier.isPrivate(method.getModifiers()) && publicNames.contains(method.getName());
            Checks.due("private method of a public name: " + method, hides ? 1 : 0, 0);
        }
        Constructor<?>[] constructors = face.getDeclaredConstructors();
        Checks.due("constructors", constructors.length, 1);
        Checks.due("constructor is public", Modifier.isPublic(constructors[0].getModifiers()) ? 1 : 0, 1);
        Checks.due("constructor's parameters", constructors[0].getParameterCount(), 0);
        for (Field field : face.getDeclaredFields()) {
            Checks.due("private field " + field, Modifier.isPrivate(field.getModifiers()) ? 1 : 0, 1);
            checkStatic(field);
        }
        for (Class<?> inside : face.getDeclaredClasses()) {
            Checks.due("static class " + inside, Modifier.isStatic(inside.getModifiers()) ? 1 : 0, 1);
            Checks.due("hidden class " + inside, Modifier.isPublic(inside.getModifiers()) ? 1 : 0, 0);
            for (Field field : inside.getDeclaredFields()) {
                checkStatic(field);
            }
        }
        Checks.finish("FaceTest");
    }

    private static void checkStatic(Field field) {
        boolean changing = Modifier.isStatic(field.getModifiers()) && !Modifier.isFinal(field.getModifiers());
        Checks.due("static state " + field, changing ? 1 : 0, 0);
    }

    private static String textOf(Method method) {
        StringBuilder text = new StringBuilder();
        text.append(method.getReturnType().getSimpleName()).append(' ').append(method.getName()).append('(');
        for (int i = 0; i < method.getParameterTypes().length; i++) {
            text.append(i == 0 ? "" : ",").append(method.getParameterTypes()[i].getSimpleName());
        }
        text.append(')');
        for (Class<?> thrown : method.getExceptionTypes()) {
            text.append(' ').append(thrown.getSimpleName());
        }
        return text.toString();
    }
}
