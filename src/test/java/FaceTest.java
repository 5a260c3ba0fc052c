import java.lang.reflect.Constructor;
import java.lang.reflect.Field;
import java.lang.reflect.Method;
import java.lang.reflect.Modifier;
import java.util.Set;
import java.util.TreeSet;

/** The class shows the document's face, and nothing else (LANGUAGE.md, rules 1 and 5). */
public final class FaceTest {
    private static final Set<String> DUE = Set.of(
        "boolean states(int)",
        "int size()",
        "boolean start(int,double)",
        "boolean move(int,int,double)",
        "boolean show(int,int,double)",
        "boolean read(int)",
        "boolean unread()",
        "int length()",
        "double forward(int,int) throws IndexOutOfBoundsException,IllegalArgumentException",
        "double backward(int,int) throws IndexOutOfBoundsException,IllegalArgumentException",
        "double total()",
        "double best()",
        "int bestState(int)",
        "double share(int,int) throws IndexOutOfBoundsException,IllegalArgumentException,ArithmeticException",
        "long possible()");

    private FaceTest() {
    }

    public static void main(String[] args) {
        Class<?> face = PathOdds.class;
        Check.that("the class is public and final",
            Modifier.isPublic(face.getModifiers()) && Modifier.isFinal(face.getModifiers()));
        Check.that("the class extends nothing", face.getSuperclass() == Object.class);
        constructors(face);
        methods(face);
        for (Field field : face.getDeclaredFields()) {
            int marks = field.getModifiers();
            Check.that(field + " is private", Modifier.isPrivate(marks));
            Check.that(field + " is final if it is static", !Modifier.isStatic(marks) || Modifier.isFinal(marks));
        }
        Check.end();
    }

    private static void constructors(Class<?> face) {
        Constructor<?>[] all = face.getDeclaredConstructors();
        Check.same("constructors", all.length, 1);
        Check.that("the constructor is public", Modifier.isPublic(all[0].getModifiers()));
        Check.same("the constructor's parameters", all[0].getParameterCount(), 0);
    }

    private static void methods(Class<?> face) {
        Set<String> shown = new TreeSet<>();
        Set<String> names = new TreeSet<>();
        for (Method method : face.getDeclaredMethods()) {
            if (Modifier.isPublic(method.getModifiers())) {
                shown.add(written(method));
                names.add(method.getName());
            }
        }
        Check.that("the public methods " + shown + " are the document's", shown.equals(DUE));
        for (Method method : face.getDeclaredMethods()) {
            int marks = method.getModifiers();
            if (!Modifier.isPublic(marks)) {
                Check.that(method + " is private", Modifier.isPrivate(marks));
                Check.that(method + " has a name of its own", !names.contains(method.getName()));
            }
        }
    }

    private static String written(Method method) {
        String head = method.getReturnType().getSimpleName() + " " + method.getName()
            + "(" + simpleNames(method.getParameterTypes()) + ")";
        String thrown = simpleNames(method.getExceptionTypes());
        return thrown.isEmpty() ? head : head + " throws " + thrown;
    }

    private static String simpleNames(Class<?>[] classes) {
        StringBuilder names = new StringBuilder();
        for (Class<?> one : classes) {
            names.append(names.length() == 0 ? "" : ",").append(one.getSimpleName());
        }
        return names.toString();
    }
}
