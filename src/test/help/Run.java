import java.lang.reflect.Method;
import java.util.ArrayList;
import java.util.HashMap;
import java.util.List;
import java.util.Map;

/**
 * A run of calls on a new object, each asked by its name. A refused call must leave all as it was: what can be read
 * is held against what it was just before, and in the end the run is done again without the refused calls, and must
 * answer the same.
 */
final class Run {
    static final int NONE = -1, UNKNOWN = -101, OUTSIDE = -102, STATE = -103, FULL = -104;
    static final int LOW = Integer.MIN_VALUE, HIGH = Integer.MAX_VALUE;
    /** 4 7, upon it 11. */
    static final String TWO = "2;s;47";
    /** 1 2 3, upon it 3 1, upon it 3. */
    static final String THREE = "3;sg,m;123";
    /** 9 0 7 5, upon it 18 7 9, upon it 18 16, upon it 52. */
    static final String FOUR = "4;wgl,ms,w;9075";

    private static final int MOST_CALLS = 512;
    private static final Map<String, Method> FACE = new HashMap<>();
    private static final List<Run> OPEN = new ArrayList<>();
    private static final List<String> WRONG = new ArrayList<>();

    static {
        for (Method method : NumberPile.class.getMethods()) {
            if (method.getDeclaringClass() == NumberPile.class) {
                FACE.put(method.getName(), method);
            }
        }
    }

    private final NumberPile object = new NumberPile();
    private final List<String> names = new ArrayList<>();
    private final List<int[]> numbers = new ArrayList<>();
    private final List<Long> answers = new ArrayList<>();
    private final List<Boolean> refusals = new ArrayList<>();
    private int mostCalls = MOST_CALLS;

    private Run() {
        OPEN.add(this);
    }

    /** A new object. */
    static Run fresh() {
        return new Run();
    }

    /** A new object, these letters on its page. */
    static Run page(String text) {
        return new Run().type(text);
    }

    /** A new object that has read this pile. */
    static Run of(String text) {
        Run run = page(text);
        run.ask("pile");
        return run;
    }

    /** An object that has something of everything, so that a refusal that changes any of it is found out. */
    static Run busy() {
        Run run = of(FOUR);
        run.ask("put", 3, 4);
        run.ask("tell", 9, 45);
        run.ask("tell", 0, 9);
        run.ask("see", 9, 1, 1, 2);
        run.ask("image");
        run.ask("exchange", 1, 2);
        run.ask("change", 8, 2);
        run.ask("tell", 3, 4);
        run.ask("see", 4, 2, 3, 7);
        run.ask("look");
        run.ask("need", 30, 0);
        run.ask("need", 30, 1);
        return run.type("3;");
    }

    /** For the one limit that no run of 512 calls can meet. */
    Run withoutLimit() {
        mostCalls = Integer.MAX_VALUE;
        return this;
    }

    Run type(String text) {
        for (char letter : text.toCharArray()) {
            ask("letter", letter);
        }
        return this;
    }

    long ask(String name, int... with) {
        long answer = call(object, name, with);
        names.add(name);
        numbers.add(with);
        answers.add(answer);
        refusals.add(false);
        return answer;
    }

    /** Asks so many times, whatever the answers are. */
    Run often(int times, String name, int... with) {
        for (int time = 0; time < times; time++) {
            ask(name, with);
        }
        return this;
    }

    Run due(long want, String name, int... with) {
        check(ask(name, with), want, name, with);
        return this;
    }

    Run refused(int want, String name, int... with) {
        long before = ask("digest");
        long fault = ask("fault");
        due(want, name, with);
        refusals.set(refusals.size() - 1, true);
        check(ask("digest"), before, "digest", new int[0]);
        check(ask("fault"), fault, "fault", new int[0]);
        return this;
    }

    int calls() {
        return names.size();
    }

    static void wrong(String what) {
        WRONG.add(what);
    }

    /** What was wrong in the runs since the last time, their ends with it. */
    static List<String> end() {
        for (Run run : new ArrayList<>(OPEN)) {
            run.doneAgain();
        }
        OPEN.clear();
        List<String> wrong = new ArrayList<>(WRONG);
        WRONG.clear();
        return wrong;
    }

    private void doneAgain() {
        if (calls() > mostCalls) {
            wrong("a run of " + calls() + " calls, more than an object is used for");
        }
        NumberPile twin = new NumberPile();
        for (int i = 0; i < names.size(); i++) {
            if (!refusals.get(i)) {
                long again = call(twin, names.get(i), numbers.get(i));
                if (again != answers.get(i)) {
                    wrong("without the refused calls " + shown(names.get(i), numbers.get(i)) + " answers " + again
                        + ", with them " + answers.get(i));
                    return;
                }
            }
        }
        for (String name : new String[] {"digest", "fault", "restore", "digest"}) {
            if (call(object, name) != call(twin, name)) {
                wrong("without the refused calls " + name + "() answers otherwise in the end");
            }
        }
    }

    private void check(long got, long want, String name, int[] with) {
        if (got != want) {
            wrong(shown(name, with) + " answered " + got + ", due is " + want + "; it was call " + calls());
        }
    }

    private static long call(NumberPile object, String name, int... with) {
        Object[] boxed = new Object[with.length];
        for (int i = 0; i < with.length; i++) {
            boxed[i] = with[i];
        }
        try {
            return ((Number) FACE.get(name).invoke(object, boxed)).longValue();
        } catch (ReflectiveOperationException e) {
            throw new IllegalStateException(shown(name, with), e);
        }
    }

    private static String shown(String name, int[] with) {
        StringBuilder text = new StringBuilder(name).append('(');
        for (int i = 0; i < with.length; i++) {
            text.append(i == 0 ? "" : ", ").append(with[i]);
        }
        return text.append(')').toString();
    }
}
