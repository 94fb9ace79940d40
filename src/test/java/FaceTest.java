import java.lang.reflect.Constructor;
import java.lang.reflect.Field;
import java.lang.reflect.Method;
import java.lang.reflect.Modifier;
import java.util.Arrays;
import java.util.Set;
import java.util.TreeSet;

/** The public face: just the document's members, and no private method named like one of them. */
final class FaceTest {
    private static final String[] FACE = {
        "int kind(int,int,int,int) IllegalArgumentException,IllegalStateException",
        "int place(int,int) IllegalArgumentException,IllegalStateException",
        "int point(int,int,int) IllegalArgumentException,IllegalStateException",
        "int height(int) IllegalArgumentException",
        "void hold(int,int) IllegalArgumentException",
        "int light(int,int,int) IllegalArgumentException",
        "int best() ",
        "int lamp(int) IllegalArgumentException",
        "int level(int) IllegalArgumentException",
        "long even(int) IllegalArgumentException",
        "int aim(int,int) IllegalArgumentException",
        "int scene() ",
        "int dim(int) IllegalArgumentException",
        "long miss(int) IllegalArgumentException",
        "void sensor(int,int) IllegalArgumentException",
        "int daylight(int,int) IllegalArgumentException",
        "int step(int) IllegalArgumentException",
        "int run(int) IllegalArgumentException,IllegalStateException",
        "int own(int,int) IllegalArgumentException",
        "long used(int) IllegalArgumentException",
    };

    private FaceTest() {
    }

    public static void main(String[] args) {
        Check.due("NONE", LampChoice.NONE, -1);
        Check.due("NO", LampChoice.NO, -2);
        Check.dueText("the class", Modifier.toString(LampChoice.class.getModifiers()), "public final");
        methods();
        fieldsAndConstructors();
        nestedClasses();
        Check.end("FaceTest");
    }

    private static void methods() {
        Set<String> seen = new TreeSet<>();
        Set<String> names = new TreeSet<>();
        for (Method method : LampChoice.class.getDeclaredMethods()) {
            if (!Modifier.isPrivate(method.getModifiers())) {
                Check.dueText(method.getName(), Modifier.toString(method.getModifiers()), "public");
                seen.add(written(method));
                names.add(method.getName());
            }
        }
        Check.dueText("the methods", seen.toString(), new TreeSet<>(Arrays.asList(FACE)).toString());
        for (Method method : LampChoice.class.getDeclaredMethods()) {
            if (Modifier.isPrivate(method.getModifiers())) {
                Check.dueText("private " + method.getName() + " bears a public name",
                        "" + names.contains(method.getName()), "false");
            }
        }
    }

    private static String written(Method method) {
        return method.getReturnType() + " " + method.getName() + "(" + simpleNames(method.getParameterTypes())
                + ") " + simpleNames(method.getExceptionTypes());
    }

    private static String simpleNames(Class<?>[] types) {
        StringBuilder text = new StringBuilder();
        for (Class<?> type : types) {
            text.append(text.length() == 0 ? "" : ",").append(type.getSimpleName());
        }
        return text.toString();
    }

    private static void fieldsAndConstructors() {
        Set<String> seen = new TreeSet<>();
        for (Field field : LampChoice.class.getDeclaredFields()) {
            if (!Modifier.isPrivate(field.getModifiers())) {
                seen.add(Modifier.toString(field.getModifiers()) + " " + field.getType() + " " + field.getName());
            }
        }
        Check.dueText("the fields", seen.toString(), "[public static final int NO, public static final int NONE]");
        Constructor<?>[] constructors = LampChoice.class.getDeclaredConstructors();
        Check.due("constructors", constructors.length, 1);
        Check.dueText("the constructor", constructors[0].toString(), "public LampChoice()");
    }

    private static void nestedClasses() {
        Check.dueText("some twelve classes at most", "" + (LampChoice.class.getDeclaredClasses().length < 12), "true");
        small(LampChoice.class);
        for (Class<?> nested : LampChoice.class.getDeclaredClasses()) {
            int modifiers = nested.getModifiers();
            Check.dueText(nested + " is static, and neither public nor protected",
                    "" + (Modifier.isStatic(modifiers) && !Modifier.isPublic(modifiers)
                            && !Modifier.isProtected(modifiers)), "true");
            small(nested);
            for (Method method : nested.getDeclaredMethods()) {
                Check.dueText(nested + " has no method named as one of the face, " + method.getName(),
                        "" + isOfTheFace(method.getName()), "false");
            }
        }
    }

    private static boolean isOfTheFace(String name) {
        return Arrays.stream(FACE).anyMatch(text -> text.contains(" " + name + "("));
    }

    /** "A method takes at most seven parameters", "a class some twenty fields beside its constants" */
    private static void small(Class<?> one) {
        for (Method method : one.getDeclaredMethods()) {
            Check.dueText(method + " takes seven at most", "" + (method.getParameterCount() <= 7), "true");
        }
        long fields = Arrays.stream(one.getDeclaredFields())
                .filter(field -> !Modifier.isStatic(field.getModifiers())).count();
        Check.dueText(one + " has " + fields + " fields, twenty at most", "" + (fields <= 20), "true");
        for (Field field : one.getDeclaredFields()) {
            boolean changes = Modifier.isStatic(field.getModifiers()) && !Modifier.isFinal(field.getModifiers());
            Check.dueText(field + " is static and not final", "" + changes, "false");
        }
    }
}
