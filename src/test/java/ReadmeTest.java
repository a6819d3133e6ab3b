import java.io.IOException;
import java.lang.reflect.InvocationTargetException;
import java.lang.reflect.Method;
import java.nio.file.Files;
import java.nio.file.Path;
import java.util.HashMap;
import java.util.List;
import java.util.Map;
import java.util.Set;
import java.util.TreeSet;
import java.util.regex.Matcher;
import java.util.regex.Pattern;

/** The calls that README.md shows, one after the other on a new object: each answers the number behind it. */
public final class ReadmeTest {
    private static final Pattern CALL = Pattern.compile("int (\\w+) = tester\\.(\\w+)\\(([^)]*)\\); +// (-?\\d+): .+");
    private static final Map<String, Integer> ANSWERS = new HashMap<>();

    private ReadmeTest() {
    }

    public static void main(String[] args) throws IOException, IllegalAccessException, InvocationTargetException, NoSuchFieldException {
        List<String> lines = Files.readAllLines(Path.of("README.md"));
        int from = lines.indexOf("```java");
        Due.is("the line of a new object", lines.indexOf("GaugeColumns tester = new GaugeColumns();"), from + 1);
        GaugeColumns tester = new GaugeColumns();
        int shown = 0;
        for (int i = from + 2; !lines.get(i).equals("```"); i++) {
            answer(tester, lines.get(i));
            shown++;
        }
        Due.holds("calls are shown", shown > 0);
        Due.holds("the command that runs all tests", lines.stream().anyMatch(it -> it.startsWith("`.ci/run`")));
        namesEachTest(String.join("\n", lines));
        Due.end("ReadmeTest");
    }

    private static void answer(GaugeColumns tester, String line) throws IllegalAccessException, InvocationTargetException, NoSuchFieldException {
        Matcher call = CALL.matcher(line);
        if (!call.matches()) {
            Due.holds("a call with its answer: " + line, false);
            return;
        }
        Method method = method(call.group(2));
        String[] words = call.group(3).isEmpty() ? new String[0] : call.group(3).split(", ");
        Object[] arguments = new Object[words.length];
        for (int i = 0; i < words.length; i++) {
            arguments[i] = method.getParameterTypes()[i] == long.class ? (Object) hex(words[i]) : (Object) number(words[i]);
        }
        int answer = (Integer) method.invoke(tester, arguments);
        ANSWERS.put(call.group(1), answer);
        Due.is(line, answer, Integer.parseInt(call.group(4)));
    }

    private static Method method(String name) {
        for (Method method : GaugeColumns.class.getMethods()) {
            if (method.getName().equals(name)) {
                return method;
            }
        }
        throw new IllegalArgumentException("README.md calls " + name + "(), which is no method");
    }

    private static long hex(String word) {
        return Long.parseLong(word.substring("0x".length(), word.length() - "L".length()), 16);
    }

    /** A number, a constant, or the answer of a call before. */
    private static int number(String word) throws IllegalAccessException, NoSuchFieldException {
        if (word.startsWith("GaugeColumns.")) {
            return GaugeColumns.class.getField(word.substring("GaugeColumns.".length())).getInt(null);
        }
        return ANSWERS.containsKey(word) ? ANSWERS.get(word) : Integer.parseInt(word);
    }

    private static void namesEachTest(String readme) throws IOException {
        Set<String> tests = new TreeSet<>();
        try (var files = Files.list(Path.of("src/test/java"))) {
            files.map(it -> it.getFileName().toString()).filter(it -> it.endsWith("Test.java")).forEach(tests::add);
        }
        for (String test : tests) {
            String name = test.substring(0, test.length() - ".java".length());
            Due.holds("README.md names " + name, readme.contains("`" + name + "`"));
        }
    }
}
