import java.io.IOException;
import java.lang.reflect.InvocationTargetException;
import java.lang.reflect.Method;
import java.lang.reflect.Modifier;
import java.nio.file.DirectoryStream;
import java.nio.file.Files;
import java.nio.file.Path;
import java.util.regex.Matcher;
import java.util.regex.Pattern;

/** README.md: its example, whose calls are done here as they are written, and that it leaves nothing out. */
public final class ReadmeTest {
    private static final Pattern EXAMPLE = Pattern.compile("(?s)```java\n(.*?)```");
    private static final Pattern ANSWERED = Pattern.compile("canyon\\.(\\w+)\\((.*)\\);\\s+// ([-.\\d]+): .*");
    private static final Pattern TEXT = Pattern.compile("for \\(char c : \"(.*)\"\\.toCharArray\\(\\)\\) \\{");

    private ReadmeTest() {
    }

    public static void main(String[] args) throws IOException, IllegalAccessException, InvocationTargetException {
        String readme = Files.readString(Path.of("README.md"));
        example(readme);
        eachMethod(readme);
        eachTest(readme);
        Check.end();
    }

    private static void example(String readme) throws IllegalAccessException, InvocationTargetException {
        Matcher block = EXAMPLE.matcher(readme);
        Check.due("README.md has an example", block.find() ? 1 : 0, 1);
        CanyonBall canyon = new CanyonBall();
        int answered = 0;
        for (String line : block.group(1).split("\n")) {
            Matcher call = ANSWERED.matcher(line);
            Matcher text = TEXT.matcher(line);
            if (call.matches()) {
                Check.due(line + " (due is 1)", answer(canyon, call.group(1), call.group(2)).equals(call.group(3)) ? 1 : 0, 1);
                answered++;
            } else if (text.matches()) {
                Check.write(canyon, text.group(1));
            } else {
                Check.due("a line that answers nothing: " + line, isSilent(line) ? 1 : 0, 1);
            }
        }
        Check.due("answers in the example", answered, 16);
    }

    private static boolean isSilent(String line) {
        return line.equals("CanyonBall canyon = new CanyonBall();") || line.equals("    canyon.append(c);") || line.equals("}");
    }

    private static String answer(CanyonBall canyon, String name, String arguments)
            throws IllegalAccessException, InvocationTargetException {
        String[] told = arguments.isEmpty() ? new String[0] : arguments.split(", ");
        Object[] values = new Object[told.length];
        for (int i = 0; i < told.length; i++) {
            boolean isTruth = told[i].equals("true") || told[i].equals("false");
            values[i] = isTruth ? (Object) Boolean.valueOf(told[i]) : (Object) Integer.valueOf(told[i]);
        }
        for (Method method : CanyonBall.class.getMethods()) {
            if (method.getName().equals(name) && method.getParameterCount() == values.length) {
                return String.valueOf(method.invoke(canyon, values));
            }
        }
        return "no such method";
    }

    private static void eachMethod(String readme) {
        for (Method method : CanyonBall.class.getDeclaredMethods()) {
            if (Modifier.isPublic(method.getModifiers())) {
                String name = "`" + method.getName() + "`";
                Check.due("README.md names " + name, readme.contains(name) ? 1 : 0, 1);
            }
        }
    }

    private static void eachTest(String readme) throws IOException {
        try (DirectoryStream<Path> files = Files.newDirectoryStream(Path.of("src/test/java"), "*.java")) {
            for (Path file : files) {
                String name = "`" + file.getFileName().toString().replace(".java", "") + "`";
                Check.due("README.md names " + name, readme.contains(name) ? 1 : 0, 1);
            }
        }
    }
}
