import java.io.IOException;
import java.lang.reflect.InvocationTargetException;
import java.lang.reflect.Method;
import java.nio.file.Files;
import java.nio.file.Path;
import java.util.HashMap;
import java.util.HashSet;
import java.util.Map;
import java.util.Set;
import java.util.regex.Matcher;
import java.util.regex.Pattern;

/**
 * Runs the examples of README.md, as they are written there: lines of calls, perhaps with a number
 * behind "//" that the last call of the line has to answer.
 */
public final class ReadmeTest {
    private static final Pattern CALL = Pattern.compile("(?:int (\\w+) = )?x\\.(\\w+)\\(([^)]*)\\)");
    private static final Pattern ANSWER = Pattern.compile("//\\s*(-?\\d+)");
    private static final int MOST_CALLS = 512;

    private final Check check = new Check();
    private final SuggestSpell x = new SuggestSpell();
    private final Map<String, Object> names = new HashMap<>();
    private final Set<String> used = new HashSet<>();
    private int calls = 0;

    public static void main(String[] args) throws Exception {
        new ReadmeTest().readAll();
    }

    private void readAll() throws IOException, ReflectiveOperationException {
        boolean inside = false;
        for (String line : Files.readAllLines(Path.of("README.md"))) {
            if (line.startsWith("```")) {
                inside = line.equals("```java");
            } else if (inside) {
                read(line);
            }
        }
        for (Method m : SuggestSpell.class.getMethods()) {
            if (m.getDeclaringClass() == SuggestSpell.class) {
                check.due("README.md has an example of " + m.getName(), used.contains(m.getName()) ? 1 : 0, 1);
            }
        }
        check.due("README.md makes too many calls of one object", calls > MOST_CALLS ? 1 : 0, 0);
        check.end();
    }

    private void read(String line) throws ReflectiveOperationException {
        Matcher call = CALL.matcher(line);
        long got = 0;
        boolean called = false;
        while (call.find()) {
            got = answerOf(call.group(2), call.group(3));
            called = true;
            if (call.group(1) != null) {
                names.put(call.group(1), (int) got);
            }
        }
        Matcher answer = ANSWER.matcher(line);
        if (called && answer.find()) {
            check.due("README.md: " + line, got, Long.parseLong(answer.group(1)));
        }
    }

    private long answerOf(String name, String told) throws ReflectiveOperationException {
        String[] texts = told.isEmpty() ? new String[0] : told.split(", ");
        Object[] values = new Object[texts.length];
        for (int i = 0; i < texts.length; i++) {
            values[i] = valueOf(texts[i]);
        }
        calls++;
        used.add(name);
        try {
            return (int) methodOf(name).invoke(x, values);
        } catch (InvocationTargetException e) {
            return Speller.THROWN;
        }
    }

    private static Method methodOf(String name) {
        for (Method m : SuggestSpell.class.getMethods()) {
            if (m.getName().equals(name)) {
                return m;
            }
        }
        throw new IllegalStateException("README.md calls " + name + ", which is not there");
    }

    private Object valueOf(String text) {
        if (text.equals("true") || text.equals("false")) {
            return Boolean.valueOf(text);
        }
        Object named = names.get(text);
        return named != null ? named : Integer.valueOf(text);
    }
}
