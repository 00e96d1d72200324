import java.io.IOException;
import java.lang.reflect.Constructor;
import java.lang.reflect.Field;
import java.lang.reflect.Method;
import java.lang.reflect.Modifier;
import java.nio.file.Files;
import java.nio.file.Path;
import java.util.List;
import java.util.TreeSet;
import java.util.regex.Matcher;
import java.util.regex.Pattern;

/** The public face, and those rules of LANGUAGE.md that can be seen without understanding the code. */
public final class FaceTest {
    static final String[] METHODS = {"feed 1", "bridge 0", "fault 0", "told 1", "matter 2", "traveller 2", "seat 1", "tell 1",
        "rise 0", "learn 1", "minute 1", "anew 0", "drift 1", "undo 1", "stay 2", "talk 2", "queue 1", "dry 2", "stayed 2",
        "couldBe 0", "ask 0", "write 2", "judge 0", "tear 0", "seed 1", "keep 1", "goBack 1"};
    private static final String[] CONSTANTS = {"NONE", "UNKNOWN", "OUTSIDE", "NOT", "FULL"};
    /** Rules 3 and 4: the types that fields may have beside the class's own, and the library's functions that are called. */
    private static final String TYPES = "int long boolean int[] long[]";
    private static final String LIBRARY = "Math.max Math.min Integer.bitCount";
    private static final int MOST_CLASSES = 12, MOST_FIELDS = 20, MOST_PARAMETERS = 7, MOST_LINES = 60;
    private static final String[] FORBIDDEN = {"throw", "throws", "try", "catch", "finally", "synchronized", "assert", "import",
        "package", "new Object", "System", "Thread", "Exact", "NaN", "hashCode", "toString", "equals", "protected", "->", "::"};

    public static void main(String[] args) throws IOException {
        constants();
        methods();
        fields();
        classesInside();
        if (args.length > 0) {
            String text = Files.readString(Path.of(args[0]));
            source(text);
            library(withoutComments(text));
            lengths(text);
        }
        Check.end("FaceTest");
    }

    private static void constants() {
        Check.due("NONE", TollDelay.NONE, -1);
        Check.due("UNKNOWN", TollDelay.UNKNOWN, -1000000001);
        Check.due("OUTSIDE", TollDelay.OUTSIDE, -1000000002);
        Check.due("NOT", TollDelay.NOT, -1000000003);
        Check.due("FULL", TollDelay.FULL, -1000000004);
    }

    private static void methods() {
        TreeSet<String> due = new TreeSet<>();
        TreeSet<String> names = new TreeSet<>();
        for (String method : METHODS) {
            due.add(method);
            names.add(method.substring(0, method.indexOf(' ')));
        }
        TreeSet<String> found = new TreeSet<>();
        for (Method method : TollDelay.class.getDeclaredMethods()) {
            if (Modifier.isPublic(method.getModifiers())) {
                found.add(method.getName() + " " + method.getParameterCount());
                Check.same(method.getName(), method.getReturnType().getName(), "int");
            } else if (!method.isSynthetic()) {
                Check.due(method.getName() + " is private", Modifier.isPrivate(method.getModifiers()) ? 1 : 0, 1);
                Check.due(method.getName() + " bears a public name", names.contains(method.getName()) ? 1 : 0, 0);
            }
        }
        Check.same("the methods", found.toString(), due.toString());
        Constructor<?>[] made = TollDelay.class.getDeclaredConstructors();
        Check.due("constructors", made.length, 1);
        Check.due("its parameters", made[0].getParameterCount(), 0);
        Check.due("the class is public and final", TollDelay.class.getModifiers() & (Modifier.PUBLIC | Modifier.FINAL), Modifier.PUBLIC | Modifier.FINAL);
        for (Class<?> inside : TollDelay.class.getDeclaredClasses()) {
            Check.due(inside.getName() + " is static", Modifier.isStatic(inside.getModifiers()) ? 1 : 0, 1);
            Check.due(inside.getName() + " is not public", Modifier.isPublic(inside.getModifiers()) ? 1 : 0, 0);
            for (Method method : inside.getDeclaredMethods()) {
                boolean hidden = Modifier.isPrivate(method.getModifiers());
                Check.due(method.getName() + " bears a public name", hidden && names.contains(method.getName()) ? 1 : 0, 0);
            }
        }
    }

    private static void fields() {
        TreeSet<String> found = new TreeSet<>();
        for (Field field : TollDelay.class.getDeclaredFields()) {
            if (Modifier.isPublic(field.getModifiers())) {
                found.add(field.getName());
            } else {
                Check.due(field.getName() + " is private", Modifier.isPrivate(field.getModifiers()) ? 1 : 0, 1);
            }
            if (Modifier.isStatic(field.getModifiers())) {
                Check.due(field.getName() + " is final", Modifier.isFinal(field.getModifiers()) ? 1 : 0, 1);
            }
        }
        TreeSet<String> due = new TreeSet<>();
        for (String name : CONSTANTS) {
            due.add(name);
        }
        Check.same("the constants", found.toString(), due.toString());
    }

    /** Rules 2, 3, 5 and 11, of the class and of those inside it. */
    private static void classesInside() {
        Class<?>[] inside = TollDelay.class.getDeclaredClasses();
        Check.due("classes", Math.max(inside.length + 1, MOST_CLASSES), MOST_CLASSES);
        rulesOf(TollDelay.class);
        for (Class<?> one : inside) {
            rulesOf(one);
            Check.due("classes inside " + one.getName(), one.getDeclaredClasses().length, 0);
        }
    }

    private static void rulesOf(Class<?> one) {
        int own = 0;
        for (Field field : one.getDeclaredFields()) {
            String name = one.getName() + "." + field.getName();
            boolean isStatic = Modifier.isStatic(field.getModifiers());
            own += isStatic ? 0 : 1;
            Check.due(name + " is static, so it is final", isStatic && !Modifier.isFinal(field.getModifiers()) ? 1 : 0, 0);
            Check.due(name + " has a type that may be", allowed(field.getType(), isStatic) ? 1 : 0, 1);
        }
        Check.due("fields of " + one.getName(), Math.max(own, MOST_FIELDS), MOST_FIELDS);
        for (Method method : one.getDeclaredMethods()) {
            int many = method.getParameterCount();
            Check.due("parameters of " + method.getName(), Math.max(many, MOST_PARAMETERS), MOST_PARAMETERS);
        }
    }

    private static boolean allowed(Class<?> type, boolean isStatic) {
        boolean number = List.of(TYPES.split(" ")).contains(type.getSimpleName());
        return number || !isStatic && type.getName().contains("TollDelay$");
    }

    private static String withoutComments(String text) {
        return text.replaceAll("(?s)/\\*.*?\\*/", " ").replaceAll("//[^\n]*", " ");
    }

    /** Every 'Name.' that is no class of the file's own must be one of the library's few. */
    private static void library(String code) {
        Matcher word = Pattern.compile("\\b([A-Z][A-Za-z]*[a-z][A-Za-z]*)\\.(\\w+)").matcher(code);
        while (word.find()) {
            boolean own = code.contains("class " + word.group(1) + " {");
            Check.due(word.group() + " may be called", own || List.of(LIBRARY.split(" ")).contains(word.group()) ? 1 : 0, 1);
        }
    }

    /** Rule 11: a method begins at four or eight blanks and ends at the brace below its first letter. */
    private static void lengths(String text) {
        Matcher method = Pattern.compile("(?m)^( {4}| {8})(?! )[^=;\n]*\\) \\{\n(.*\n)*?\\1\\}").matcher(text);
        int found = 0;
        while (method.find()) {
            int lines = method.group().split("\n").length;
            Check.due("lines of " + method.group().split("\n")[0].trim(), Math.max(lines, MOST_LINES), MOST_LINES);
            found++;
        }
        Check.due("methods are found", found > METHODS.length ? 1 : 0, 1);
    }

    private static void source(String text) {
        String code = withoutComments(text);
        for (String word : FORBIDDEN) {
            String edge = Character.isLetter(word.charAt(0)) ? "\\b" : "";
            boolean there = Pattern.compile(edge + Pattern.quote(word) + edge).matcher(code).find();
            Check.due("the source has '" + word + "'", there ? 1 : 0, 0);
        }
        for (int i = 0; i < text.length(); i++) {
            if (text.charAt(i) > 126) {
                Check.due("a letter beyond 126 at " + i, text.charAt(i), 126);
            }
        }
    }
}
