import java.io.IOException;
import java.lang.reflect.InvocationTargetException;
import java.lang.reflect.Method;
import java.lang.reflect.Modifier;
import java.nio.file.Files;
import java.nio.file.Path;
import java.util.Set;
import java.util.TreeSet;
import java.util.regex.Matcher;
import java.util.regex.Pattern;

/** What README.md tells of the calls: its example answers as written there, and its table has each call. */
public final class ReadmeTest {
    private static final Check CHECK = new Check();
    private static final Path README = Path.of("README.md");
    private static final Pattern TOLD = Pattern.compile("tell\\(park, \"([^\"]*)\"\\);\\s*// (\\S+)");
    private static final Pattern CALLED = Pattern.compile("park\\.(\\w+)\\(([^)]*)\\);(?:\\s*// (\\S+))?");

    private static Method named(String name) {
        for (Method m : HedgePark.class.getDeclaredMethods()) {
            if (m.getName().equals(name) && Modifier.isPublic(m.getModifiers())) {
                return m;
            }
        }
        throw new IllegalStateException("README.md calls " + name);
    }

    private static Object[] argumentsFor(Method method, String written) {
        Class<?>[] types = method.getParameterTypes();
        String[] words = written.split(", ");
        Object[] arguments = new Object[types.length];
        for (int i = 0; i < types.length; i++) {
            if (types[i] == boolean.class) {
                arguments[i] = Boolean.valueOf(words[i]);
            } else if (types[i] == long.class) {
                arguments[i] = Long.valueOf(words[i]);
            } else {
                arguments[i] = Integer.valueOf(words[i]);
            }
        }
        return arguments;
    }

    /** The answer as README.md writes it; null: the call answers nothing. */
    private static String answer(HedgePark park, String name, String written) throws IllegalAccessException {
        Method method = named(name);
        try {
            Object answer = method.invoke(park, argumentsFor(method, written));
            return answer == null ? null : answer.toString();
        } catch (InvocationTargetException e) {
            return e.getCause().getClass().getSimpleName();
        }
    }

    private static void example(String block) throws IllegalAccessException {
        HedgePark park = new HedgePark();
        int calls = 0;
        for (String line : block.split("\n")) {
            Matcher told = TOLD.matcher(line);
            Matcher called = CALLED.matcher(line);
            if (told.lookingAt()) {
                CHECK.due(line, Check.lay(park, told.group(1)), Long.parseLong(told.group(2)));
                calls++;
            } else if (called.lookingAt()) {
                CHECK.due(line, String.valueOf(answer(park, called.group(1), called.group(2))), String.valueOf(called.group(3)));
                calls++;
            } else {
                CHECK.due("a line of the example", line, "HedgePark park = new HedgePark();");
            }
        }
        CHECK.due("the example has calls", calls > 20 ? 1 : 0, 1);
    }

    private static void table(String readme) {
        Set<String> due = new TreeSet<>();
        for (Method m : HedgePark.class.getDeclaredMethods()) {
            if (Modifier.isPublic(m.getModifiers())) {
                due.add(m.getName());
            }
        }
        Set<String> is = new TreeSet<>();
        String rows = readme.substring(readme.indexOf("| for | calls |"), readme.indexOf("## Tests"));
        Matcher word = Pattern.compile("`(\\w+)`").matcher(rows);
        while (word.find()) {
            CHECK.due("the table tells it once: " + word.group(1), is.add(word.group(1)) ? 1 : 0, 1);
        }
        CHECK.due("the table of calls", is.toString(), due.toString());
    }

    private static void tests(String readme) throws IOException {
        try (var files = Files.list(Path.of("src/test/java"))) {
            for (Path file : files.toList()) {
                String name = file.getFileName().toString().replace(".java", "");
                if (name.endsWith("Test")) {
                    CHECK.due("README.md tells of " + name, readme.contains("| `" + name + "` |") ? 1 : 0, 1);
                }
            }
        }
    }

    public static void main(String[] args) throws IOException, IllegalAccessException {
        String readme = Files.readString(README);
        Matcher block = Pattern.compile("(?s)```java\n(HedgePark park = .*?)```").matcher(readme);
        CHECK.due("there is an example", block.find() ? 1 : 0, 1);
        example(block.group(1));
        table(readme);
        tests(readme);
        CHECK.end("ReadmeTest");
    }
}
