import java.io.IOException;
import java.lang.reflect.Array;
import java.lang.reflect.Field;
import java.lang.reflect.Method;
import java.lang.reflect.Modifier;
import java.nio.file.Files;
import java.nio.file.Path;
import java.util.ArrayList;
import java.util.Arrays;
import java.util.List;
import java.util.regex.Matcher;
import java.util.regex.Pattern;

/** What can be seen of ../shared/LANGUAGE.md from the source and the class; run from the project's directory. */
public final class LanguageTest {
    private static final Path SOURCE = Path.of("src/main/java/SpanParser.java");
    /** Words of Java that rules 2, 3, 6 and 13 leave out, and ways to answer NaN or to depend on an object. */
    private static final String[] LEFT_OUT = {"package", "finally", "synchronized", "assert", "volatile", "native",
        "strictfp", "yield", "var", "super", "Thread", "Runtime", "Random", "Object", "Class", "Override",
        "hashCode", "toString", "getMessage", "NaN", "POSITIVE_INFINITY", "NEGATIVE_INFINITY"};
    private static final List<String> IMPORTS = List.of("java.util.ArrayList", "java.util.List", "java.util.Arrays",
            "java.util.Iterator", "java.util.NoSuchElementException");
    private static final List<Class<?>> CONSTANTS = List.of(int.class, long.class, boolean.class, char.class,
            String.class, int[].class, long[].class, char[].class, byte[].class);
    private static final int LONGEST_METHOD = 60;
    private static final int MOST_PARAMETERS = 7;
    private static final int MOST_CLASSES = 12;
    private static final int MOST_FIELDS = 20;
    /** A run's room is 7.3 million; this leaves place for more than two hundred objects in one. */
    private static final int MOST_ELEMENTS = 30000;

    public static void main(String[] args) throws IOException, IllegalAccessException {
        String code = withoutComments(Files.readString(SOURCE));
        words(code);
        imports(code);
        calls(code);
        whatIsMade(code);
        List<Class<?>> classes = new ArrayList<>(Arrays.asList(SpanParser.class.getDeclaredClasses()));
        Check.dueTrue("at most twelve classes: " + classes, classes.size() < MOST_CLASSES);
        for (Class<?> inside : classes) {
            Check.dueTrue(inside + " is static", Modifier.isStatic(inside.getModifiers()));
            Check.dueTrue(inside + " isn't public", !Modifier.isPublic(inside.getModifiers()));
        }
        classes.add(SpanParser.class);
        int methods = 0;
        for (Class<?> each : classes) {
            fields(each);
            parameters(each);
            methods += each.getDeclaredMethods().length;
        }
        Check.due("methods, and the constructor, whose length was seen", methodsAreShort(code), methods + 1);
        long elements = elementsOf(new SpanParser());
        Check.dueTrue("an object has " + elements + " elements", elements <= MOST_ELEMENTS);
        Check.end();
    }

    private static String withoutComments(String source) {
        return source.replaceAll("(?s)/\\*.*?\\*/", "").replaceAll("//.*", "");
    }

    private static void words(String code) {
        for (String word : LEFT_OUT) {
            Check.dueTrue("no " + word, !Pattern.compile("\\b" + word + "\\b").matcher(code).find());
        }
        for (String sign : new String[] {"->", "::", "@", "\""}) {
            Check.dueTrue("no " + sign + " outside of a character", !code.replaceAll("'.'", "").contains(sign));
        }
        Check.dueTrue("all is ASCII", code.chars().allMatch(c -> c < 127));
    }

    private static void imports(String code) {
        Matcher each = Pattern.compile("(?m)^import (.*);$").matcher(code);
        while (each.find()) {
            Check.dueTrue("import of " + each.group(1), IMPORTS.contains(each.group(1)));
        }
        Check.dueTrue("java.* in imports alone", !code.replaceAll("(?m)^import .*$", "").contains("java."));
    }

    /** The class uses just these of the library. */
    private static void calls(String code) {
        Matcher each = Pattern.compile("\\b(System|Math|Integer|Long|Arrays|Double|String)\\.(\\w+)").matcher(code);
        while (each.find()) {
            Check.dueTrue("call of " + each.group(), each.group().equals("Math.min")
                    || each.group().equals("System.arraycopy"));
        }
    }

    /** Rows are made once, with the object; a call makes exceptions alone. */
    private static void whatIsMade(String code) {
        for (String line : code.split("\n")) {
            Check.dueTrue("made by a call: " + line, !line.contains("new ")
                    || line.matches(" +private final .*") || line.matches(" +throw new \\w+\\(\\);"));
        }
    }

    /** A method is a block in a class that opens behind a closing bracket or a throws. */
    private static int methodsAreShort(String code) {
        String[] lines = code.split("\n");
        int methods = 0;
        int depth = 0;
        int outside = -1;
        int begin = 0;
        for (int i = 0; i < lines.length; i++) {
            if (outside < 0 && lines[i].matches(".*(\\)|throws [\\w, ]+) \\{")) {
                methods++;
                outside = depth;
                begin = i;
            }
            depth += lines[i].chars().map(c -> c == '{' ? 1 : c == '}' ? -1 : 0).sum();
            if (depth == outside) {
                Check.dueTrue("too long: " + lines[begin], i - begin < LONGEST_METHOD);
                outside = -1;
            }
        }
        return methods;
    }

    private static void fields(Class<?> each) {
        int fields = 0;
        for (Field field : each.getDeclaredFields()) {
            int modifiers = field.getModifiers();
            if (Modifier.isStatic(modifiers)) {
                Check.dueTrue(field + " is a constant",
                        Modifier.isFinal(modifiers) && CONSTANTS.contains(field.getType()));
            } else {
                fields++;
                Check.dueTrue(field + " is made once",
                        Modifier.isFinal(modifiers) || field.getType().isPrimitive());
            }
        }
        Check.dueTrue(each + " has " + fields + " fields", fields <= MOST_FIELDS);
    }

    private static void parameters(Class<?> each) {
        for (Method method : each.getDeclaredMethods()) {
            Check.dueTrue("parameters of " + method, method.getParameterCount() <= MOST_PARAMETERS);
        }
    }

    /** Fields and elements of the object and of all that it holds. */
    private static long elementsOf(Object object) throws IllegalAccessException {
        if (object.getClass().isArray()) {
            return Array.getLength(object);
        }
        long elements = 0;
        for (Field field : object.getClass().getDeclaredFields()) {
            if (!Modifier.isStatic(field.getModifiers())) {
                field.setAccessible(true);
                elements += 1 + (field.getType().isPrimitive() ? 0 : elementsOf(field.get(object)));
            }
        }
        return elements;
    }
}
