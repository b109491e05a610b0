import java.io.IOException;
import java.lang.reflect.InvocationTargetException;
import java.lang.reflect.Method;
import java.lang.reflect.Modifier;
import java.nio.file.DirectoryStream;
import java.nio.file.Files;
import java.nio.file.Path;
import java.util.regex.Matcher;
import java.util.regex.Pattern;

/** README.md is right: its calls answer what it says, and it leaves out no call and no test. */
public final class ReadmeTest {
    private static final Pattern CALL = Pattern.compile("plan\\.(\\w+)\\(([-\\d, ]*)\\);\\s*// (-?\\d+|[A-Z]+)\\b.*");

    public static void main(String[] args) throws IOException, ReflectiveOperationException {
        Due due = new Due();
        String text = Files.readString(Path.of("README.md"));
        calls(due, text);
        everyCallIsTold(due, text);
        everyTestIsTold(due, text);
        due.end();
    }

    private static void calls(Due due, String text) throws ReflectiveOperationException {
        StrikePlan plan = new StrikePlan();
        int made = 0;
        for (String line : text.split("\n")) {
            if (line.startsWith("plan.")) {
                Matcher matcher = CALL.matcher(line);
                due.holds("can be read: " + line, matcher.matches());
                if (matcher.matches()) {
                    due.is(line, answerOf(plan, matcher.group(1), matcher.group(2)), numberOf(matcher.group(3)));
                    made++;
                }
            }
        }
        due.holds("calls were found", made > 20);
    }

    private static int answerOf(StrikePlan plan, String name, String numbers)
            throws NoSuchMethodException, IllegalAccessException, InvocationTargetException {
        String[] texts = numbers.isEmpty() ? new String[0] : numbers.split(", ");
        Class<?>[] types = new Class<?>[texts.length];
        Object[] values = new Object[texts.length];
        for (int k = 0; k < texts.length; k++) {
            types[k] = int.class;
            values[k] = Integer.valueOf(texts[k]);
        }
        return (Integer) StrikePlan.class.getMethod(name, types).invoke(plan, values);
    }

    /** A number as it is written, or a constant of the class. */
    private static int numberOf(String word) throws NoSuchFieldException, IllegalAccessException {
        boolean isName = Character.isLetter(word.charAt(0));
        return isName ? StrikePlan.class.getField(word).getInt(null) : Integer.parseInt(word);
    }

    private static void everyCallIsTold(Due due, String text) {
        for (Method method : StrikePlan.class.getDeclaredMethods()) {
            if (Modifier.isPublic(method.getModifiers())) {
                due.holds(method.getName() + " is told", text.contains("| `" + method.getName() + "("));
            }
        }
    }

    private static void everyTestIsTold(Due due, String text) throws IOException {
        try (DirectoryStream<Path> files = Files.newDirectoryStream(Path.of("src/test/java"), "*Test.java")) {
            for (Path file : files) {
                String name = file.getFileName().toString().replace(".java", "");
                due.holds(name + " is told", text.contains("| `" + name + "` |"));
            }
        }
    }
}
