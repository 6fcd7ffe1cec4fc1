import java.lang.reflect.Constructor;
import java.lang.reflect.Field;
import java.lang.reflect.Method;
import java.lang.reflect.Modifier;
import java.util.Arrays;
import java.util.TreeSet;

/** The public face: what the document lists, and nothing else that is not private. */
public final class FaceTest {
    private static final String[] METHODS = {
        "int type(long) IllegalArgumentException IllegalStateException",
        "int rule(double) IllegalArgumentException IllegalStateException UnsupportedOperationException",
        "void mark(int,int) IllegalArgumentException",
        "void bar(int,int,boolean) IllegalArgumentException",
        "void follow(int,int,boolean) IllegalArgumentException",
        "void undo() NoSuchElementException",
        "int parse(int) IllegalArgumentException NoSuchElementException",
        "double weight() NoSuchElementException",
        "int node(int,int) IllegalArgumentException NoSuchElementException",
        "int many(int,int,int) IllegalArgumentException NoSuchElementException",
        "int count(int)",
    };

    public static void main(String[] args) {
        Check.dueTrue("the class is public and final",
                SpanParser.class.getModifiers() == (Modifier.PUBLIC | Modifier.FINAL));
        constructors();
        methods();
        for (Field field : SpanParser.class.getDeclaredFields()) {
            Check.dueTrue("field " + field.getName() + " is private", Modifier.isPrivate(field.getModifiers()));
        }
        Check.end();
    }

    private static void constructors() {
        Constructor<?>[] made = SpanParser.class.getDeclaredConstructors();
        Check.due("constructors", made.length, 1);
        Check.dueTrue("the constructor is public", Modifier.isPublic(made[0].getModifiers()));
        Check.due("its parameters", made[0].getParameterCount(), 0);
    }

    private static void methods() {
        TreeSet<String> got = new TreeSet<>();
        TreeSet<String> names = new TreeSet<>();
        for (Method method : SpanParser.class.getDeclaredMethods()) {
            if (!Modifier.isPrivate(method.getModifiers())) {
                got.add(written(method));
                names.add(method.getName());
            }
        }
        TreeSet<String> want = new TreeSet<>(Arrays.asList(METHODS));
        Check.dueTrue("methods are " + got + ", due are " + want, got.equals(want));
        for (Method method : SpanParser.class.getDeclaredMethods()) {
            Check.dueTrue("no private method has the face's name " + method.getName(),
                    !Modifier.isPrivate(method.getModifiers()) || !names.contains(method.getName()));
        }
    }

    private static String written(Method method) {
        StringBuilder written = new StringBuilder();
        written.append(method.getReturnType().getName()).append(' ').append(method.getName()).append('(');
        for (int i = 0; i < method.getParameterCount(); i++) {
            written.append(i == 0 ? "" : ",").append(method.getParameterTypes()[i].getName());
        }
        written.append(')');
        for (Class<?> exception : method.getExceptionTypes()) {
            written.append(' ').append(exception.getSimpleName());
        }
        return written.toString();
    }
}
