import java.io.IOException;
import java.lang.reflect.Field;
import java.lang.reflect.Method;
import java.lang.reflect.Modifier;
import java.nio.file.Files;
import java.nio.file.Path;
import java.util.regex.Matcher;
import java.util.regex.Pattern;

/** README.md: its example's calls answer as it says, and it leaves out no call and no constant. */
final class ReadmeTest {
    private static final Pattern TYPED = Pattern.compile("for \\(char c : \"([^\"]*)\"");
    private static final Pattern CALL = Pattern.compile("x\\.(\\w+)\\(([-0-9, ]*)\\);\\s*// (-?\\d+):.*");

    private ReadmeTest() {
    }

    public static void main(String[] args) throws IOException, ReflectiveOperationException {
        String page = Files.readString(Path.of("README.md"));
        example(page);
        names(page);
        Checks.end();
    }

    private static void example(String page) throws ReflectiveOperationException {
        Checks.promise("README.md: its example answers as it says");
        RefusedStones x = new RefusedStones();
        int calls = 0;
        for (String line : page.split("\n")) {
            Matcher typed = TYPED.matcher(line);
            if (typed.find()) {
                for (char letter : typed.group(1).toCharArray()) {
                    x.type(letter);
                }
            }
            Matcher call = CALL.matcher(line);
            if (call.matches()) {
                calls++;
                Checks.due(line, answer(x, call.group(1), call.group(2)), Integer.parseInt(call.group(3)));
            } else {
                Checks.due("a line that tells an answer is read: " + line, !line.matches("x\\..*// *-?\\d.*"));
            }
        }
        Checks.due("there are calls", calls > 10);
    }

    private static int answer(RefusedStones x, String name, String numbers) throws ReflectiveOperationException {
        String[] told = numbers.isBlank() ? new String[0] : numbers.split(",");
        Object[] values = new Object[told.length];
        Class<?>[] types = new Class<?>[told.length];
        for (int k = 0; k < told.length; k++) {
            values[k] = Integer.parseInt(told[k].trim());
            types[k] = int.class;
        }
        return (Integer) RefusedStones.class.getMethod(name, types).invoke(x, values);
    }

    private static void names(String page) {
        Checks.promise("README.md: it names every call and every constant");
        for (Method m : RefusedStones.class.getDeclaredMethods()) {
            if (Modifier.isPublic(m.getModifiers())) {
                Checks.due(m.getName(), page.contains("`" + m.getName() + "`"));
            }
        }
        for (Field f : RefusedStones.class.getFields()) {
            Checks.due(f.getName(), page.contains("`" + f.getName() + "`"));
        }
    }
}
