import java.io.IOException;
import java.lang.reflect.Constructor;
import java.lang.reflect.Field;
import java.lang.reflect.Method;
import java.lang.reflect.Modifier;
import java.nio.file.Files;
import java.nio.file.Path;
import java.util.Set;
import java.util.TreeSet;
import java.util.regex.Pattern;

/** The public face of the document, and those rules of LANGUAGE.md that a program can look at. */
public final class FaceTest {
    private static final Due DUE = new Due("FaceTest");
    private static final Set<String> METHODS = Set.of(
            "int dial(boolean, long)", "int turn(int, long)", "int spin(int, long, int)", "long place(int, int)",
            "long laps(int)", "int fine(int)", "int drive(int, long)", "int fit(int, int)", "int pull(int, int)",
            "int gear(int, int)", "int lay(int, int, int)", "int wind(int, int)", "int laid(int, int)",
            "int pulls(int)", "int log(int, boolean, int)", "int write(int, boolean, int, long)",
            "int read(int, boolean, int)", "long seen()", "int note(int, boolean, int, int)",
            "int recall(int, boolean, int, int)", "int sift(int, boolean, long)", "int cast(int, int, long)",
            "int left(boolean, long, long)", "int failed()", "int about(int)");
    private static final Set<String> CONSTANTS = Set.of(
            "NONE -1", "NULL -11", "PLACE -12", "CAST -13", "STORE -14", "ENDLESS -15", "UNKNOWN -101",
            "OUTSIDE -102", "FULL -103");
    private static final String[] RULED_OUT_WORDS = {
        "throw", "try", "catch", "synchronized", "assert", "package", "protected", "Float", "Double",
    };
    private static final String[] RULED_OUT_TEXTS = {"Exact(", "->", "::", "static {"};

    public static void main(String[] args) throws IOException, IllegalAccessException {
        face();
        constants();
        namesInside();
        if (args.length > 0) {
            source(Path.of(args[0]));
        }
        DUE.end();
    }

    private static void same(String what, Set<String> got, Set<String> want) {
        DUE.due(what + " " + got, got.equals(want));
    }

    private static String told(Method method) {
        StringBuilder text = new StringBuilder(method.getReturnType() + " " + method.getName() + "(");
        for (Class<?> type : method.getParameterTypes()) {
            text.append(text.charAt(text.length() - 1) == '(' ? "" : ", ").append(type);
        }
        return text.append(")").toString();
    }

    private static void face() {
        int modifiers = OrreryDials.class.getModifiers();
        DUE.due("public and final", Modifier.isPublic(modifiers) && Modifier.isFinal(modifiers));
        Set<String> open = new TreeSet<>();
        for (Method method : OrreryDials.class.getDeclaredMethods()) {
            if (!Modifier.isPrivate(method.getModifiers()) && !method.isSynthetic()) {
                open.add(told(method));
            }
        }
        same("methods", open, METHODS);
        Constructor<?>[] constructors = OrreryDials.class.getDeclaredConstructors();
        DUE.due("constructors", constructors.length, 1);
        DUE.due("public constructor", Modifier.isPublic(constructors[0].getModifiers()));
        DUE.due("constructor's parameters", constructors[0].getParameterCount(), 0);
    }

    private static void constants() throws IllegalAccessException {
        Set<String> open = new TreeSet<>();
        for (Field field : OrreryDials.class.getDeclaredFields()) {
            int modifiers = field.getModifiers();
            DUE.due("static and not final: " + field, !Modifier.isStatic(modifiers) || Modifier.isFinal(modifiers));
            if (!Modifier.isPrivate(modifiers)) {
                open.add(field.getName() + " " + field.getInt(null));
            }
        }
        same("constants", open, CONSTANTS);
    }

    private static void namesInside() {
        Set<String> open = new TreeSet<>();
        for (String method : METHODS) {
            open.add(method.substring(method.indexOf(' ') + 1, method.indexOf('(')));
        }
        for (Method method : OrreryDials.class.getDeclaredMethods()) {
            if (Modifier.isPrivate(method.getModifiers())) {
                DUE.due("private " + method.getName(), !open.contains(method.getName()));
            }
        }
        Class<?>[] inside = OrreryDials.class.getDeclaredClasses();
        DUE.due("twelve classes at most", inside.length <= 11);
        for (Class<?> type : inside) {
            DUE.due("static: " + type, Modifier.isStatic(type.getModifiers()));
            DUE.due("fields of " + type, type.getDeclaredFields().length <= 20);
            for (Method method : type.getDeclaredMethods()) {
                DUE.due("inside " + method, !open.contains(method.getName()) && method.getParameterCount() <= 7);
            }
        }
    }

    private static void source(Path path) throws IOException {
        String code = Files.readString(path)
                .replaceAll("(?s)/\\*.*?\\*/", "")
                .replaceAll("//[^\n]*", "");
        for (String word : RULED_OUT_WORDS) {
            DUE.due("ruled out: " + word, !Pattern.compile("\\b" + word + "\\b").matcher(code).find());
        }
        for (String text : RULED_OUT_TEXTS) {
            DUE.due("ruled out: " + text, !code.contains(text));
        }
    }
}
