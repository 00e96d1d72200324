import java.io.IOException;
import java.lang.reflect.Constructor;
import java.lang.reflect.Field;
import java.lang.reflect.Method;
import java.lang.reflect.Modifier;
import java.nio.file.Files;
import java.nio.file.Path;
import java.util.TreeSet;

/** The public face, and those rules of LANGUAGE.md that can be seen without understanding the code. */
public final class FaceTest {
    private static final String[] METHODS = {"feed 1", "bridge 0", "fault 0", "told 1", "matter 2", "traveller 2", "seat 1", "tell 1",
        "rise 0", "learn 1", "minute 1", "anew 0", "drift 1", "undo 1", "stay 2", "talk 2", "queue 1", "dry 2", "stayed 2",
        "couldBe 0", "ask 0", "write 2", "judge 0", "tear 0", "seed 1", "keep 1", "goBack 1"};
    private static final String[] CONSTANTS = {"NONE", "UNKNOWN", "OUTSIDE", "NOT", "FULL"};
    private static final String[] FORBIDDEN = {"throw", "throws", "try", "catch", "finally", "synchronized", "assert", "import",
        "package", "new Object", "System", "Thread", "Exact", "NaN", "hashCode", "toString", "equals", "protected", "->", "::"};

    public static void main(String[] args) throws IOException {
        constants();
        methods();
        fields();
        if (args.length > 0) {
            source(Files.readString(Path.of(args[0])));
        }
        Check.end("FaceTest");
    }

    private static void constants() {
        Check.due("NONE", TollDelay.NONE, -1);
        Check.due("UNKNOWN", TollDelay.UNKNOWN, -1000000001);
        Check.due("OUTSIDE", TollDelay.OUTSIDE, -1000000002);
        Check.due("NOT", TollDelay.NOT, -1000000003);
        Check.due("FULL", TollDelay.FULL, -1000000004);
    }

    private static void methods() {
        TreeSet<String> due = new TreeSet<>();
        TreeSet<String> names = new TreeSet<>();
        for (String method : METHODS) {
            due.add(method);
            names.add(method.substring(0, method.indexOf(' ')));
        }
        TreeSet<String> found = new TreeSet<>();
        for (Method method : TollDelay.class.getDeclaredMethods()) {
            if (Modifier.isPublic(method.getModifiers())) {
                found.add(method.getName() + " " + method.getParameterCount());
                Check.same(method.getName(), method.getReturnType().getName(), "int");
            } else if (!method.isSynthetic()) {
                Check.due(method.getName() + " is private", Modifier.isPrivate(method.getModifiers()) ? 1 : 0, 1);
                Check.due(method.getName() + " bears a public name", names.contains(method.getName()) ? 1 : 0, 0);
            }
        }
        Check.same("the methods", found.toString(), due.toString());
        Constructor<?>[] made = TollDelay.class.getDeclaredConstructors();
        Check.due("constructors", made.length, 1);
        Check.due("its parameters", made[0].getParameterCount(), 0);
        Check.due("the class is public and final", TollDelay.class.getModifiers() & (Modifier.PUBLIC | Modifier.FINAL), Modifier.PUBLIC | Modifier.FINAL);
        for (Class<?> inside : TollDelay.class.getDeclaredClasses()) {
            Check.due(inside.getName() + " is static", Modifier.isStatic(inside.getModifiers()) ? 1 : 0, 1);
            Check.due(inside.getName() + " is not public", Modifier.isPublic(inside.getModifiers()) ? 1 : 0, 0);
            for (Method method : inside.getDeclaredMethods()) {
                boolean hidden = Modifier.isPrivate(method.getModifiers());
                Check.due(method.getName() + " bears a public name", hidden && names.contains(method.getName()) ? 1 : 0, 0);
            }
        }
    }

    private static void fields() {
        TreeSet<String> found = new TreeSet<>();
        for (Field field : TollDelay.class.getDeclaredFields()) {
            if (Modifier.isPublic(field.getModifiers())) {
                found.add(field.getName());
            } else {
                Check.due(field.getName() + " is private", Modifier.isPrivate(field.getModifiers()) ? 1 : 0, 1);
            }
            if (Modifier.isStatic(field.getModifiers())) {
                Check.due(field.getName() + " is final", Modifier.isFinal(field.getModifiers()) ? 1 : 0, 1);
            }
        }
        TreeSet<String> due = new TreeSet<>();
        for (String name : CONSTANTS) {
            due.add(name);
        }
        Check.same("the constants", found.toString(), due.toString());
    }

    private static void source(String text) {
        String code = text.replaceAll("(?s)/\\*.*?\\*/", " ").replaceAll("//[^\n]*", " ");
        for (String word : FORBIDDEN) {
            String edge = Character.isLetter(word.charAt(0)) ? "\\b" : "";
            boolean there = java.util.regex.Pattern.compile(edge + java.util.regex.Pattern.quote(word) + edge).matcher(code).find();
            Check.due("the source has '" + word + "'", there ? 1 : 0, 0);
        }
        for (int i = 0; i < text.length(); i++) {
            if (text.charAt(i) > 126) {
                Check.due("a letter beyond 126 at " + i, text.charAt(i), 126);
            }
        }
    }
}
