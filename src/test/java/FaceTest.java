import java.lang.reflect.Constructor;
import java.lang.reflect.Field;
import java.lang.reflect.Method;
import java.lang.reflect.Modifier;
import java.nio.file.Files;
import java.nio.file.Path;
import java.util.Arrays;
import java.util.HashSet;
import java.util.List;
import java.util.Set;
import java.util.TreeSet;
import java.util.regex.Matcher;
import java.util.regex.Pattern;

/** The face that the document gives the class, and the rules of LANGUAGE.md that can be read off it or its text. */
public final class FaceTest {
    private static final String[] FACE = {"int letter(int)", "int blank()", "int fault()", "int pile()",
        "int brick(int,int)", "int as(int,int)", "int makes(int,int,int)", "int put(int,int)", "int exchange(int,int)",
        "int change(int,int)", "int tell(int,int)", "int hush(int)", "int swing(int)", "int order(int)",
        "int need(int,int)", "int left()", "int fits(int)", "int look()", "int odds(int,int,int)",
        "int see(int,int,int,int)", "int forget()", "int drawn(int,int,int)", "int image()", "int restore()",
        "int count(int)", "long digest()", "NumberPile()", "int NONE", "int UNKNOWN", "int OUTSIDE", "int STATE",
        "int FULL"};
    private static final Path SOURCE = Path.of("src", "main", "java", "NumberPile.java");
    private static final int MOST_LINES = 60;
    private static final int MOST_CLASSES = 12;
    private static final int MOST_FIELDS = 20;
    private static final int MOST_PARAMETERS = 7;

    private static int wrong = 0;

    private FaceTest() {
    }

    public static void main(String[] args) throws Exception {
        face();
        membersOf(NumberPile.class);
        for (Class<?> inside : NumberPile.class.getDeclaredClasses()) {
            classInside(inside);
        }
        hold("some twelve classes", NumberPile.class.getDeclaredClasses().length < MOST_CLASSES);
        text(Files.readString(SOURCE));
        System.out.println(wrong == 0 ? "the face and the text are as due" : wrong + " things are not as due");
        if (wrong != 0) {
            System.exit(1);
        }
    }

    private static void hold(String what, boolean holds) {
        if (!holds) {
            wrong++;
            System.out.println("not so: " + what);
        }
    }

    private static void face() {
        Set<String> found = new TreeSet<>();
        for (Method method : NumberPile.class.getDeclaredMethods()) {
            if (!Modifier.isPrivate(method.getModifiers())) {
                hold("a method of an object: " + method, !Modifier.isStatic(method.getModifiers()));
                found.add(method.getReturnType() + " " + method.getName() + parameters(method.getParameterTypes()));
            }
        }
        for (Constructor<?> constructor : NumberPile.class.getDeclaredConstructors()) {
            found.add(constructor.getName() + parameters(constructor.getParameterTypes()));
        }
        for (Field field : NumberPile.class.getDeclaredFields()) {
            if (!Modifier.isPrivate(field.getModifiers())) {
                hold("public, static and final: " + field, Modifier.isPublic(field.getModifiers())
                    && Modifier.isStatic(field.getModifiers()) && Modifier.isFinal(field.getModifiers()));
                found.add(field.getType() + " " + field.getName());
            }
        }
        hold("the document's face and no more: " + found, found.equals(new TreeSet<>(List.of(FACE))));
        int modifiers = NumberPile.class.getModifiers();
        hold("public and final", Modifier.isPublic(modifiers) && Modifier.isFinal(modifiers));
        hold("no package", NumberPile.class.getPackageName().isEmpty());
    }

    private static String parameters(Class<?>[] types) {
        return Arrays.toString(types).replace(", ", ",").replace('[', '(').replace(']', ')');
    }

    private static void membersOf(Class<?> type) {
        Set<String> open = new HashSet<>();
        for (Method method : NumberPile.class.getDeclaredMethods()) {
            if (Modifier.isPublic(method.getModifiers())) {
                open.add(method.getName());
            }
        }
        for (Method method : type.getDeclaredMethods()) {
            boolean isFace = type == NumberPile.class && Modifier.isPublic(method.getModifiers());
            hold("a name of its own: " + method, isFace || !open.contains(method.getName()));
            hold("seven parameters at most: " + method, method.getParameterCount() <= MOST_PARAMETERS);
        }
        int fields = 0;
        for (Field field : type.getDeclaredFields()) {
            boolean isStatic = Modifier.isStatic(field.getModifiers());
            hold("no static state: " + field, !isStatic || Modifier.isFinal(field.getModifiers()));
            fields += isStatic ? 0 : 1;
        }
        hold("some twenty fields: " + type, fields <= MOST_FIELDS);
    }

    private static void classInside(Class<?> type) {
        int modifiers = type.getModifiers();
        hold("static: " + type, Modifier.isStatic(modifiers));
        hold("not for others: " + type, !Modifier.isPublic(modifiers) && !Modifier.isProtected(modifiers));
        membersOf(type);
    }

    private static void text(String source) {
        String bare = source.replaceAll("(?s)/\\*.*?\\*/", "").replaceAll("//[^\n]*", "")
            .replaceAll("\"[^\"\n]*\"", "\"\"").replaceAll("'[^'\n]*'", "' '");
        String[] without = {"\\b(throw|throws|try|catch|finally|synchronized|assert|volatile|transient|native)\\b", "->",
            "::", "\\bException\\b", "\\bObject\\b", "Exact\\b", "\\bstatic\\s*\\{", "\\bpackage\\b", "\"\"\\s*\\+",
            "\\+\\s*\"\"", "\\bSystem\\.(?!arraycopy\\b)", "\\bThread\\b", "\\bRandom\\b", "\\bhashCode\\b",
            "\\bMath\\.(?!max\\b|min\\b|abs\\b|floorDiv\\b|floorMod\\b)", "\\b(double|float|var)\\b",
            "\\bArrays\\.(?!fill\\b|copyOf\\b|copyOfRange\\b)", "\\bwhile\\b", "\\bnew\\s+\\w+\\s*\\([^()]*\\)\\s*\\{"};
        for (String pattern : without) {
            Matcher found = Pattern.compile(pattern).matcher(bare);
            hold("the text is without " + pattern, !found.find());
        }
        Matcher imports = Pattern.compile("import ([^;]*);").matcher(bare);
        while (imports.find()) {
            hold("a library that is listed: " + imports.group(1),
                List.of("java.util.Arrays", "java.util.ArrayList", "java.util.List").contains(imports.group(1)));
        }
        hold("signs 1 to 127", source.chars().allMatch(sign -> sign >= 1 && sign <= 127));
        methodsAreShort(source);
    }

    /** A method begins at a line that ends in ") {" with one or two steps of four ahead, and ends at the same step. */
    private static void methodsAreShort(String source) {
        String[] lines = source.split("\n");
        Pattern head = Pattern.compile("^(    |        )(?!if|for|switch|else)[A-Za-z].*\\) \\{$");
        for (int i = 0; i < lines.length; i++) {
            Matcher found = head.matcher(lines[i]);
            if (found.matches()) {
                int end = i;
                while (end < lines.length && !lines[end].equals(found.group(1) + "}")) {
                    end++;
                }
                hold("sixty lines at most: " + lines[i].trim(), end - i < MOST_LINES);
            }
        }
    }
}
