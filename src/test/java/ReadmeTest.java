import java.io.IOException;
import java.lang.reflect.InvocationTargetException;
import java.lang.reflect.Method;
import java.lang.reflect.Modifier;
import java.nio.file.Files;
import java.nio.file.Path;
import java.util.regex.Matcher;
import java.util.regex.Pattern;

/** What README.md says of the use of the class: each call that it shows, with its answer. */
public final class ReadmeTest {
    private static final Due DUE = new Due();
    private static final Pattern TYPED =
            Pattern.compile("for \\(char b : \"([^\"]*)\"\\.toCharArray\\(\\)\\) senate\\.type\\((\\d), b\\);.*");
    private static final Pattern CALL = Pattern.compile("senate\\.(\\w+)\\(([-0-9, ]*)\\); +// (-?\\d+)\\b.*");

    private ReadmeTest() {
    }

    public static void main(String[] args) throws IOException, ReflectiveOperationException {
        String readme = Files.readString(Path.of("README.md"));
        showsAnswersAsTheyAre(readme);
        namesEveryCall(readme);
        DUE.end();
    }

    private static void showsAnswersAsTheyAre(String readme) throws ReflectiveOperationException {
        WoodliceSenate senate = new WoodliceSenate();
        int shown = 0;
        for (String line : readme.split("\n")) {
            Matcher typed = TYPED.matcher(line);
            Matcher call = CALL.matcher(line);
            if (typed.matches()) {
                Told.typeAll(senate, Integer.parseInt(typed.group(2)), typed.group(1));
            } else if (call.matches()) {
                long answer = answer(senate, call.group(1), call.group(2));
                DUE.is(line, answer, Long.parseLong(call.group(3)));
                shown++;
            } else {
                DUE.isTrue("a line that is no call: " + line, !line.startsWith("senate."));
            }
        }
        DUE.isTrue("calls are shown", shown > 0);
    }

    private static long answer(WoodliceSenate senate, String name, String numbers)
            throws IllegalAccessException, InvocationTargetException {
        String[] parts = numbers.isEmpty() ? new String[0] : numbers.split(", ");
        Object[] given = new Object[parts.length];
        for (int i = 0; i < parts.length; i++) {
            given[i] = Integer.valueOf(parts[i]);
        }
        for (Method method : WoodliceSenate.class.getDeclaredMethods()) {
            if (Modifier.isPublic(method.getModifiers()) && method.getName().equals(name)
                    && method.getParameterCount() == given.length) {
                return ((Number) method.invoke(senate, given)).longValue();
            }
        }
        throw new IllegalArgumentException("no such call: " + name);
    }

    private static void namesEveryCall(String readme) {
        for (Method method : WoodliceSenate.class.getDeclaredMethods()) {
            if (Modifier.isPublic(method.getModifiers())) {
                DUE.isTrue("README.md names " + method.getName(), readme.contains('`' + method.getName() + '`'));
            }
        }
    }
}
