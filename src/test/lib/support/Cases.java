package support;

import java.lang.reflect.InvocationTargetException;
import java.lang.reflect.Method;
import java.util.ArrayList;
import java.util.Comparator;
import java.util.List;

/** Runs every method of a class that bears the document's words, each as a test of its own. */
public final class Cases {
    private Cases() {
    }

    public static void run(Class<?> holder, int... promises) {
        List<Method> cases = casesOf(holder);
        for (Method test : cases) {
            runOne(test);
        }
        for (int promise : promises) {
            if (cases.stream().noneMatch(test -> promiseOf(test) == promise)) {
                Answers.under("promise " + promise);
                Answers.complain("no test");
            }
        }
        Answers.end("all " + cases.size() + " cases hold");
    }

    private static List<Method> casesOf(Class<?> holder) {
        List<Method> cases = new ArrayList<>();
        for (Method method : holder.getDeclaredMethods()) {
            if (method.isAnnotationPresent(Says.class)) {
                cases.add(method);
            }
        }
        cases.sort(Comparator.comparing(Cases::promiseOf).thenComparing(Method::getName));
        return cases;
    }

    private static int promiseOf(Method test) {
        return test.getAnnotation(Says.class).promise();
    }

    private static void runOne(Method test) {
        Says says = test.getAnnotation(Says.class);
        Answers.under("promise " + says.promise() + ", " + test.getName() + " (" + says.words() + ")");
        test.setAccessible(true);
        try {
            test.invoke(null);
        } catch (InvocationTargetException e) {
            Answers.complain("a call threw " + e.getCause());
        } catch (IllegalAccessException e) {
            Answers.complain("it cannot be run: " + e);
        }
    }
}
