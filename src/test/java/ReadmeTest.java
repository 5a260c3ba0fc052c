import java.io.File;
import java.io.IOException;
import java.lang.reflect.InvocationTargetException;
import java.lang.reflect.Method;
import java.lang.reflect.Modifier;
import java.nio.file.Files;
import java.nio.file.Path;
import java.util.ArrayList;
import java.util.List;
import java.util.regex.Matcher;
import java.util.regex.Pattern;

/** README.md: its example answers what it says there, and it names every call of the class and every test. */
public final class ReadmeTest {
    private static final Pattern CALL = Pattern.compile("x\\.(\\w+)\\((.*?)\\);(?:\\s*// ([^:]+): .+)?");
    private static final String MADE = "PathOdds x = new PathOdds();";

    private ReadmeTest() {
    }

    public static void main(String[] args) throws IOException {
        List<String> page = Files.readAllLines(Path.of("README.md"));
        example(page);
        namesEveryCall(String.join("\n", page));
        namesEveryTest(String.join("\n", page));
        Check.end();
    }

    private static void example(List<String> page) {
        PathOdds x = new PathOdds();
        int begin = page.indexOf("```java") + 1;
        Check.that("there is an example and it makes an object", begin > 0 && page.get(begin).equals(MADE));
        List<String> asked = new ArrayList<>();
        for (int k = begin + 1; begin > 0 && !page.get(k).equals("```"); k++) {
            Matcher call = CALL.matcher(page.get(k));
            if (call.matches()) {
                String answer = answer(x, call.group(1), call.group(2));
                String due = call.group(3) == null ? "true" : call.group(3);
                Check.that(page.get(k) + " answers " + answer, answer.equals(due));
                asked.add(call.group(1));
            } else {
                Check.that("a line that is no call: " + page.get(k), page.get(k).isEmpty());
            }
        }
        for (Method method : face()) {
            Check.that("the example calls " + method.getName(), asked.contains(method.getName()));
        }
    }

    private static List<Method> face() {
        List<Method> face = new ArrayList<>();
        for (Method method : PathOdds.class.getDeclaredMethods()) {
            if (Modifier.isPublic(method.getModifiers())) {
                face.add(method);
            }
        }
        return face;
    }

    private static String answer(PathOdds x, String name, String written) {
        for (Method method : face()) {
            if (method.getName().equals(name)) {
                return answer(x, method, written.isEmpty() ? new String[0] : written.split(", "));
            }
        }
        return "no such call";
    }

    private static String answer(PathOdds x, Method method, String[] written) {
        Class<?>[] types = method.getParameterTypes();
        if (types.length != written.length) {
            return "no such call";
        }
        Object[] given = new Object[types.length];
        for (int k = 0; k < types.length; k++) {
            given[k] = types[k] == double.class
                ? (Object) Double.valueOf(written[k])
                : (Object) Integer.valueOf(written[k]);
        }
        try {
            return String.valueOf(method.invoke(x, given));
        } catch (InvocationTargetException e) {
            return e.getCause().getClass().getSimpleName();
        } catch (IllegalAccessException e) {
            return "no such call";
        }
    }

    private static void namesEveryCall(String page) {
        for (Method method : face()) {
            Check.that("the table has " + method.getName(), page.contains("\n| `" + method.getName() + "("));
        }
        Check.that("the table has the constructor", page.contains("\n| `new PathOdds()`"));
    }

    private static void namesEveryTest(String page) {
        Check.that("it says how to run the tests", page.contains("\n.ci/run\n") && new File(".ci/run").canExecute());
        String[] files = new File("src/test/java").list();
        Check.that("there are tests", files != null && files.length > 0);
        for (String file : files == null ? new String[0] : files) {
            String name = file.replace(".java", "");
            Check.that("it names " + name, page.contains("`" + name + "`"));
        }
    }
}
