import java.io.IOException;
import java.lang.reflect.Method;
import java.lang.reflect.Modifier;
import java.nio.file.Files;
import java.nio.file.Path;
import java.util.HashMap;
import java.util.Map;
import java.util.regex.Matcher;
import java.util.regex.Pattern;

/** The examples of README.md answer what they say, and each call is told there. */
public final class ReadmeTest {
    private static final Pattern EXAMPLE = Pattern.compile("(?s)```java\n(.*?)```");
    private static final Pattern TYPED = Pattern.compile("for \\(char c : \"([^\"]*)\".*x\\.feed\\(c\\); }");
    private static final Pattern CALL =
        Pattern.compile("(?:int (\\w+) = )?x\\.(\\w+)\\(([^)]*)\\); +// (-?\\d+|NONE|UNKNOWN|OUTSIDE|NOT|FULL)\\b.*");
    private static final Due DUE = new Due();

    private final GraftRules x = new GraftRules();
    private final Map<String, Integer> names = new HashMap<>();

    public static void main(String[] args) throws IOException, ReflectiveOperationException {
        String readme = Files.readString(Path.of("README.md"));
        Matcher examples = EXAMPLE.matcher(readme);
        int found = 0;
        while (examples.find()) {
            found++;
            new ReadmeTest().follow(examples.group(1));
        }
        DUE.isTrue("examples are found", found >= 4);
        for (Method method : GraftRules.class.getDeclaredMethods()) {
            if (Modifier.isPublic(method.getModifiers())) {
                DUE.isTrue(method.getName() + " is told", readme.contains("\n| `" + method.getName() + "("));
            }
        }
        DUE.end("ReadmeTest");
    }

    private void follow(String example) throws ReflectiveOperationException {
        for (String line : example.split("\n")) {
            Matcher typed = TYPED.matcher(line);
            Matcher call = CALL.matcher(line);
            if (typed.matches()) {
                Bench.feedAll(x, typed.group(1));
            } else if (call.matches()) {
                long got = answerOf(call.group(2), call.group(3));
                DUE.is(line, got, valueOf(call.group(4)));
                names.put(call.group(1), (int) got);
            } else {
                DUE.isTrue("a line that is understood: " + line, line.equals("GraftRules x = new GraftRules();"));
            }
        }
    }

    private long answerOf(String name, String typedArguments) throws ReflectiveOperationException {
        String[] typed = typedArguments.isEmpty() ? new String[0] : typedArguments.split(", ");
        Object[] values = new Object[typed.length];
        Class<?>[] types = new Class<?>[typed.length];
        for (int i = 0; i < typed.length; i++) {
            values[i] = valueOf(typed[i]);
            types[i] = int.class;
        }
        return ((Number) GraftRules.class.getMethod(name, types).invoke(x, values)).longValue();
    }

    private int valueOf(String typed) throws ReflectiveOperationException {
        if (names.containsKey(typed)) {
            return names.get(typed);
        }
        if (typed.startsWith("'")) {
            return typed.charAt(1);
        }
        if (Character.isUpperCase(typed.charAt(0))) {
            return GraftRules.class.getField(typed).getInt(null);
        }
        return Integer.parseInt(typed);
    }
}
