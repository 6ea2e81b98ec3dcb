import java.lang.reflect.InvocationTargetException;
import java.lang.reflect.Method;
import java.util.ArrayList;
import java.util.Comparator;
import java.util.List;
import java.util.regex.Matcher;
import java.util.regex.Pattern;

/** Runs tests that are each of a sentence: a method named by its promise, with the sentence in @Of. */
final class Sentences {
    private static final Pattern NAME = Pattern.compile("promise([0-9]+)[A-Z][A-Za-z0-9]*");

    private Sentences() {
    }

    static void run(Class<?> tests) {
        for (Method test : testsOf(tests)) {
            Check.start(test.getName() + " (" + String.join(" / ", wordsOf(test)) + ")");
            try {
                test.invoke(null);
            } catch (InvocationTargetException e) {
                Check.same("the test ends", "normally", String.valueOf(e.getCause()));
            } catch (IllegalAccessException e) {
                throw new IllegalStateException(e);
            }
        }
        Check.done();
    }

    static List<Method> testsOf(Class<?> tests) {
        List<Method> found = new ArrayList<>();
        for (Method method : tests.getDeclaredMethods()) {
            if (method.isAnnotationPresent(Of.class)) {
                found.add(method);
            }
        }
        found.sort(Comparator.comparing(Sentences::promiseOf).thenComparing(Method::getName));
        return found;
    }

    static String[] wordsOf(Method test) {
        return test.getAnnotation(Of.class).value();
    }

    /** 0 for a name that tells no promise. */
    static int promiseOf(Method test) {
        Matcher name = NAME.matcher(test.getName());
        return name.matches() ? Integer.parseInt(name.group(1)) : 0;
    }
}
