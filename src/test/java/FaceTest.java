import java.io.IOException;
import java.lang.reflect.Constructor;
import java.lang.reflect.Field;
import java.lang.reflect.Method;
import java.lang.reflect.Modifier;
import java.nio.file.Files;
import java.nio.file.Path;
import java.util.Set;
import java.util.TreeSet;
import java.util.regex.Matcher;
import java.util.regex.Pattern;

/** The public face as the document writes it, and the rules of ../shared/LANGUAGE.md that a look at the text can tell. */
public final class FaceTest {
    private static final String[] FACE = {
        "int call(int, int) throws IndexOutOfBoundsException IllegalArgumentException",
        "int walk(int, int) throws IndexOutOfBoundsException IllegalArgumentException",
        "int throwBall(int, int, boolean) throws IllegalArgumentException",
        "int set(int, int) throws IndexOutOfBoundsException IllegalArgumentException IllegalStateException",
        "int pass(int) throws IllegalArgumentException IllegalStateException",
        "int append(int) throws IllegalArgumentException IllegalStateException",
        "int clearBuffer()",
        "int firstError()",
        "int run() throws IllegalArgumentException",
        "int keep(int) throws IllegalArgumentException",
        "int goBack(int) throws IllegalArgumentException IllegalStateException",
        "int undo() throws IllegalStateException",
        "int playerOf(int, int) throws IndexOutOfBoundsException IllegalArgumentException",
        "int echoOf(int, int) throws IllegalArgumentException",
        "int count(int) throws IllegalArgumentException",
        "int setting(int) throws IndexOutOfBoundsException",
        "int ballIn(int, int) throws IllegalArgumentException",
        "int echoIn(int, int) throws IndexOutOfBoundsException IllegalArgumentException",
        "int wouldClash(int, int) throws IndexOutOfBoundsException IllegalArgumentException",
        "int callIn(int) throws IndexOutOfBoundsException",
        "int quietIn()",
        "int best()",
        "double answeredShare()",
        "long digest()",
    };
    // What the language leaves out and this program could slip into.
    private static final String[] LEFT_OUT = {"\\bimport\\b", "\\bpackage\\b", "->", "::", "\\btry\\b", "\\bcatch\\b",
        "\\bfinally\\b", "\\bsynchronized\\b", "\\bassert\\b", "Exact\\(", "MAX_VALUE", "MIN_VALUE", "\\bDouble\\.",
        "\\bSystem\\.(?!arraycopy)", "\\bArrays\\.(?!copyOf|copyOfRange|fill)", "\\bObject\\b", "\\bvar\\b", "@",
        "Math\\.(?!min\\(|max\\()", "[^\\x00-\\x7f]"};

    private FaceTest() {
    }

    public static void main(String[] args) throws IOException {
        methods();
        fieldsAndConstructors();
        language(Files.readString(Path.of("src/main/java/CanyonBall.java")));
        Check.end();
    }

    private static void same(String what, Set<String> got, Set<String> want) {
        Check.due(what + ", got " + got, got.equals(want) ? 1 : 0, 1);
    }

    private static String told(Method method) {
        StringBuilder text = new StringBuilder(method.getReturnType().getSimpleName() + " " + method.getName() + "(");
        String comma = "";
        for (Class<?> type : method.getParameterTypes()) {
            text.append(comma).append(type.getSimpleName());
            comma = ", ";
        }
        text.append(")");
        String before = " throws ";
        for (Class<?> type : method.getExceptionTypes()) {
            text.append(before).append(type.getSimpleName());
            before = " ";
        }
        return text.toString();
    }

    private static void methods() {
        Set<String> got = new TreeSet<>();
        Set<String> names = new TreeSet<>();
        for (Method method : CanyonBall.class.getDeclaredMethods()) {
            if (!Modifier.isPrivate(method.getModifiers()) && !method.isSynthetic()) {
                got.add(told(method));
                names.add(method.getName());
                Check.due(told(method) + " is public and nothing else", method.getModifiers(), Modifier.PUBLIC);
            }
        }
        same("the methods of the face", got, new TreeSet<>(Set.of(FACE)));
        for (Method method : CanyonBall.class.getDeclaredMethods()) {
            if (Modifier.isPrivate(method.getModifiers())) {
                Check.due(method.getName() + " is not a name of the face", names.contains(method.getName()) ? 1 : 0, 0);
            }
        }
    }

    private static void fieldsAndConstructors() {
        Set<String> got = new TreeSet<>();
        for (Field field : CanyonBall.class.getDeclaredFields()) {
            if (!Modifier.isPrivate(field.getModifiers())) {
                got.add(Modifier.toString(field.getModifiers()) + " " + field.getType() + " " + field.getName());
            }
        }
        same("the fields of the face", got, Set.of("public static final int NONE"));
        Constructor<?>[] constructors = CanyonBall.class.getDeclaredConstructors();
        Check.due("one constructor", constructors.length, 1);
        Check.due("without parameters", constructors[0].getParameterCount(), 0);
        Check.due("public", constructors[0].getModifiers(), Modifier.PUBLIC);
        Check.due("public final class", CanyonBall.class.getModifiers(), Modifier.PUBLIC | Modifier.FINAL);
        for (Class<?> inside : CanyonBall.class.getDeclaredClasses()) {
            Check.due(inside.getSimpleName() + " is static", Modifier.isStatic(inside.getModifiers()) ? 1 : 0, 1);
            Check.due(inside.getSimpleName() + " is not public", Modifier.isPublic(inside.getModifiers()) ? 1 : 0, 0);
        }
    }

    private static void language(String source) {
        String code = source.replaceAll("(?s)/\\*.*?\\*/", "").replaceAll("//[^\n]*", "").replaceAll("\"[^\"\n]*\"", "\"\"");
        for (String leftOut : LEFT_OUT) {
            Matcher matcher = Pattern.compile(leftOut).matcher(code);
            Check.due("LANGUAGE.md leaves out " + leftOut, matcher.find() ? 1 : 0, 0);
        }
    }
}
