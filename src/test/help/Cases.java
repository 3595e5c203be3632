import java.lang.reflect.InvocationTargetException;
import java.lang.reflect.Method;
import java.util.ArrayList;
import java.util.Comparator;
import java.util.List;

/** Runs the tests of a class: its methods without parameters, each with the sentence that it is of. */
final class Cases {
    private Cases() {
    }

    static List<Method> of(Class<?> type) {
        List<Method> cases = new ArrayList<>();
        for (Method method : type.getDeclaredMethods()) {
            if (method.getParameterCount() == 0 && method.getReturnType() == void.class) {
                cases.add(method);
            }
        }
        cases.sort(Comparator.comparing(Method::getName));
        return cases;
    }

    static void run(Class<?> type) {
        int wrong = 0;
        for (Method method : of(type)) {
            List<String> found = wrongIn(method);
            for (String what : found) {
                System.out.println(type.getName() + "." + method.getName() + saying(method) + ": " + what);
            }
            wrong += found.isEmpty() ? 0 : 1;
        }
        System.out.println(of(type).size() + " tests, " + wrong + " failed");
        if (wrong != 0) {
            System.exit(1);
        }
    }

    private static List<String> wrongIn(Method method) {
        Says says = method.getAnnotation(Says.class);
        if (says == null) {
            Run.wrong("it does not say which sentence it is of");
        }
        try {
            method.setAccessible(true);
            method.invoke(null);
        } catch (InvocationTargetException e) {
            Run.wrong("threw " + e.getCause() + cause(e.getCause()));
        } catch (IllegalAccessException e) {
            Run.wrong("can't be called");
        }
        return Run.end();
    }

    private static String cause(Throwable thrown) {
        return thrown.getCause() == null ? "" : " by " + thrown.getCause().getCause();
    }

    private static String saying(Method method) {
        Says says = method.getAnnotation(Says.class);
        return says == null ? "" : " (" + says.under() + ", \"" + says.words() + "\")";
    }
}
