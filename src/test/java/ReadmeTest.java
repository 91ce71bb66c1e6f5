import java.lang.reflect.Method;
import java.lang.reflect.Modifier;
import java.nio.file.Files;
import java.nio.file.Path;
import java.util.HashMap;
import java.util.List;
import java.util.Map;
import java.util.regex.Matcher;
import java.util.regex.Pattern;
import java.util.stream.Stream;

// README.md tells the truth: each call of its examples answers what stands behind it, and nothing is left out.
public final class ReadmeTest {
    private static final String NEW_OBJECT = "SignallingPoint point = new SignallingPoint();";
    private static final Pattern CALL = Pattern.compile(
        "(?:int (\\w+) = )?point\\.(\\w+)\\(([^)]*)\\);\\s*// (-?\\d+|[A-Z]+)(?::.*)?");

    private static final Map<String, Long> names = new HashMap<>();
    private static SignallingPoint point = null;
    private static int calls = 0;
    private static int wrong = 0;

    public static void main(String[] args) throws Exception {
        String text = Files.readString(Path.of("README.md"));
        Matcher example = Pattern.compile("(?s)```java\\n(.*?)```").matcher(text);
        while (example.find()) {
            runExample(example.group(1));
        }
        check("there are examples", calls > 0);
        everyMethodIsNamed(text);
        everyTestIsNamed(text);
        System.out.println(calls + " calls in README.md, " + wrong + " faults");
        if (wrong != 0) {
            System.exit(1);
        }
    }

    private static void check(String what, boolean holds) {
        if (!holds) {
            wrong++;
            System.out.println("README.md: not so: " + what);
        }
    }

    private static void runExample(String code) throws Exception {
        names.clear();
        point = null;
        for (String line : code.split("\n")) {
            Matcher call = CALL.matcher(line);
            if (line.equals(NEW_OBJECT)) {
                point = new SignallingPoint();
            } else if (point != null && call.matches()) {
                runCall(call, line);
            } else {
                check("a call with its answer: " + line, false);
            }
        }
    }

    private static void runCall(Matcher call, String line) throws Exception {
        String[] words = call.group(3).isEmpty() ? new String[0] : call.group(3).split(", ");
        Class<?>[] types = new Class<?>[words.length];
        Object[] values = new Object[words.length];
        for (int i = 0; i < words.length; i++) {
            types[i] = int.class;
            values[i] = (int) valueOf(words[i]);
        }
        Method method = SignallingPoint.class.getMethod(call.group(2), types);
        long answer = ((Number) method.invoke(point, values)).longValue();
        calls++;
        check(line + " (the answer is " + answer + ")", answer == valueOf(call.group(4)));
        if (call.group(1) != null) {
            names.put(call.group(1), answer);
        }
    }

    private static long valueOf(String word) throws Exception {
        if (names.containsKey(word)) {
            return names.get(word);
        }
        return word.matches("-?\\d+") ? Long.parseLong(word) : SignallingPoint.class.getField(word).getInt(null);
    }

    private static void everyMethodIsNamed(String text) {
        for (Method m : SignallingPoint.class.getDeclaredMethods()) {
            if (Modifier.isPublic(m.getModifiers())) {
                check("it names the method " + m.getName(), text.contains("`" + m.getName() + "`"));
            }
        }
    }

    private static void everyTestIsNamed(String text) throws Exception {
        try (Stream<Path> files = Files.list(Path.of("src/test/java"))) {
            List<String> tests = files.map(file -> "src/test/java/" + file.getFileName()).toList();
            for (String test : tests) {
                check("it names the test " + test, text.contains("`" + test + "`"));
            }
        }
    }
}
