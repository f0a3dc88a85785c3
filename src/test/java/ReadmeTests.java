import java.io.IOException;
import java.lang.reflect.InvocationTargetException;
import java.lang.reflect.Method;
import java.lang.reflect.Modifier;
import java.nio.charset.StandardCharsets;
import java.nio.file.Files;
import java.nio.file.Path;
import java.util.Map;
import java.util.TreeMap;
import java.util.TreeSet;
import java.util.regex.Matcher;
import java.util.regex.Pattern;

/** README.md's examples are one run of calls: each answers what is said behind it, and each call of the face is shown. */
public final class ReadmeTests {
    private static final Pattern CALL = Pattern.compile("q\\.(\\w+)\\((.*?)\\); +// (-?\\d+|BAD|NO|FULL|NONE)\\b.*");
    private static final Pattern PUT = Pattern.compile("put\\(q, \"(.*)\"\\);");
    private static final String NEW = "QueueTurns q = new QueueTurns();";
    private static final Map<String, Long> REFUSALS = Map.of("BAD", -1L, "NO", -2L, "FULL", -3L, "NONE", -4L);

    private final Map<String, Method> notShown = methods();
    private QueueTurns q;
    private int wrong = 0;
    private int calls = 0;

    public static void main(String[] args) throws IOException {
        ReadmeTests tests = new ReadmeTests();
        tests.readBlocks(Files.readString(Path.of("README.md"), StandardCharsets.UTF_8));
        tests.due("calls that are not shown", new TreeSet<>(tests.notShown.keySet()), new TreeSet<String>());
        tests.due("calls made, fewer than the 513th", tests.calls > 0 && tests.calls <= 512, true);
        System.out.println(tests.wrong == 0 ? "README.md says what is so" : tests.wrong + " faults of README.md");
        if (tests.wrong != 0) {
            System.exit(1);
        }
    }

    private static Map<String, Method> methods() {
        Map<String, Method> all = new TreeMap<>();
        for (Method m : QueueTurns.class.getDeclaredMethods()) {
            if (Modifier.isPublic(m.getModifiers())) {
                all.put(m.getName(), m);
            }
        }
        return all;
    }

    private void due(String what, Object got, Object want) {
        if (!got.equals(want)) {
            wrong++;
            System.out.println(what + ": there is " + got + ", README.md says " + want);
        }
    }

    /** The block that shows how put is written is read over; the one below is the same. */
    private void readBlocks(String readme) {
        Matcher block = Pattern.compile("```java\n(.*?)```", Pattern.DOTALL).matcher(readme);
        while (block.find()) {
            if (!block.group(1).startsWith("static void put")) {
                block.group(1).lines().map(String::strip).forEach(this::readLine);
            }
        }
    }

    private void readLine(String line) {
        Matcher call = CALL.matcher(line);
        Matcher put = PUT.matcher(line);
        if (line.equals(NEW)) {
            q = new QueueTurns();
        } else if (put.matches()) {
            put(q, put.group(1));
        } else if (call.matches()) {
            String answer = call.group(3);
            due(line, made(call.group(1), call.group(2)),
                REFUSALS.containsKey(answer) ? REFUSALS.get(answer) : Long.valueOf(answer));
        } else {
            due(line, line.startsWith("//"), true);
        }
    }

    private void put(QueueTurns q, String text) {
        for (int at = 0; at < text.length(); at += 8) {
            int n = Math.min(8, text.length() - at);
            long v = 0;
            for (int k = 0; k < n; k++) {
                v = v << 8 | text.charAt(at + k);
            }
            q.write(n, v);
            calls++;
        }
    }

    private Object made(String name, String numbers) {
        Method method = methods().get(name);
        if (method == null) {
            return "no such call";
        }
        notShown.remove(name);
        calls++;
        String[] parts = numbers.isEmpty() ? new String[0] : numbers.split(", ");
        Class<?>[] types = method.getParameterTypes();
        if (parts.length != types.length) {
            return "a call of " + types.length + " numbers";
        }
        Object[] given = new Object[parts.length];
        for (int k = 0; k < parts.length; k++) {
            if (types[k] == long.class) {
                given[k] = Long.decode(parts[k].replace("L", ""));
            } else {
                given[k] = Integer.valueOf(parts[k]);
            }
        }
        try {
            return ((Number) method.invoke(q, given)).longValue();
        } catch (InvocationTargetException | IllegalAccessException thrown) {
            return thrown;
        }
    }
}
