import java.lang.reflect.Method;
import java.util.Map;
import java.util.regex.Matcher;
import java.util.regex.Pattern;

/**
 * Each boundary case that the document names has a test of its own: the words that a test says stand in the document,
 * and without all of these no word that names such a case is left over.
 */
public final class DocEdgesTest {
    private static final Class<?>[] EDGES = {PileEdgesTest.class, DoneEdgesTest.class, WouldEdgesTest.class,
        SeenEdgesTest.class, AllEdgesTest.class, TermsEdgesTest.class};
    private static final Pattern OF_PROMISES =
        Pattern.compile("\\b(UNKNOWN|OUTSIDE|STATE|FULL|NONE)\\b|\\d+ to \\d+|at least|at most|too\\b|wrapping");
    private static final Pattern OF_TERMS = Pattern.compile(
        "\\bnone\\b|\\d+ to \\d+|at most|too\\b|the least|rounded|rest by|keeps|of several|change nothing");
    private static final Pattern OF_WHAT_IT_IS = Pattern.compile("\\d+ to \\d+|at most|down to one|as many digits");

    private static int wrong = 0;

    private DocEdgesTest() {
    }

    public static void main(String[] args) {
        Map<String, String> sections = Doc.sections();
        int tests = 0;
        for (Class<?> type : EDGES) {
            for (Method method : Cases.of(type)) {
                tests++;
                strike(sections, type, method);
            }
        }
        for (int promise = 1; promise <= 27; promise++) {
            hold(sections, "Promise " + promise, OF_PROMISES);
        }
        hold(sections, "Terms", OF_TERMS);
        hold(sections, "What it is", OF_WHAT_IT_IS);
        System.out.println(tests + " tests say their words; " + wrong + " things are not as due");
        if (wrong != 0) {
            System.exit(1);
        }
    }

    /** Strikes out the words that a test says; they are looked for in the whole text, as others may say them, too. */
    private static void strike(Map<String, String> sections, Class<?> type, Method method) {
        Says says = method.getAnnotation(Says.class);
        String name = type.getName() + "." + method.getName();
        if (says == null) {
            tell(name + " does not say its words");
            return;
        }
        String text = Doc.sections().getOrDefault(says.under(), "");
        if (!text.contains(says.words())) {
            tell(name + ": the document does not say so under " + says.under() + ": " + says.words());
            return;
        }
        Matcher promise = Pattern.compile("p(\\d\\d)_.*").matcher(method.getName());
        boolean isOfPromise = promise.matches() && says.under().startsWith("Promise");
        if (isOfPromise && !says.under().equals("Promise " + Integer.parseInt(promise.group(1)))) {
            tell(name + " is of another promise than " + says.under());
        }
        char[] left = sections.get(says.under()).toCharArray();
        for (int at = text.indexOf(says.words()); at >= 0; at = text.indexOf(says.words(), at + 1)) {
            java.util.Arrays.fill(left, at, at + says.words().length(), '_');
        }
        sections.put(says.under(), new String(left));
    }

    private static void hold(Map<String, String> sections, String under, Pattern named) {
        String left = sections.getOrDefault(under, "");
        if (left.isEmpty()) {
            tell("the document has no " + under);
        }
        Matcher found = named.matcher(left);
        while (found.find()) {
            int from = Math.max(0, found.start() - 30);
            tell("no test is of this, under " + under + ": .. "
                + left.substring(from, Math.min(left.length(), found.end() + 30)));
        }
    }

    private static void tell(String what) {
        wrong++;
        System.out.println(what);
    }
}
