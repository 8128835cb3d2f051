import java.io.IOException;
import java.lang.reflect.Method;
import java.nio.file.DirectoryStream;
import java.nio.file.Files;
import java.nio.file.Path;
import java.util.List;
import java.util.Set;
import java.util.TreeSet;
import java.util.regex.Matcher;
import java.util.regex.Pattern;

/** README.md: its calls answer what stands behind them, and it tells of every call of the face and every test. */
public final class ReadmeTest {
    private static final Due DUE = new Due("ReadmeTest");
    private static final Path README = Path.of("README.md");
    private static final Path TESTS = Path.of("src/test/java");
    private static final Pattern CALL = Pattern.compile("ledger\\.(\\w+)\\((.*)\\); +// (\\w+|-\\d+): .+");

    private ReadmeTest() {
    }

    public static void main(String[] args) throws Exception {
        List<String> lines = Files.readAllLines(README);
        Set<String> called = doCalls(example(lines));
        DUE.isTrue("the calls of the face: " + called, called.equals(namesOfTheFace()));
        namesEveryTest(String.join("\n", lines));
        DUE.end();
    }

    private static List<String> example(List<String> lines) {
        int begin = lines.indexOf("```java") + 1;
        int length = lines.subList(begin, lines.size()).indexOf("```");
        DUE.isTrue("an example", begin > 0 && length > 0);
        return lines.subList(begin, begin + length);
    }

    private static Set<String> doCalls(List<String> example) throws ReflectiveOperationException {
        Set<String> called = new TreeSet<>();
        ProvenLedger ledger = null;
        for (String line : example) {
            Matcher call = CALL.matcher(line);
            if (line.equals("ProvenLedger ledger = new ProvenLedger();")) {
                ledger = new ProvenLedger();
            } else if (call.matches()) {
                called.add(call.group(1));
                DUE.is(line, answer(ledger, call.group(1), call.group(2)), due(call.group(3)));
            } else {
                DUE.isTrue("a line that is no call: " + line, line.isEmpty());
            }
        }
        return called;
    }

    private static long answer(ProvenLedger ledger, String name, String arguments) throws ReflectiveOperationException {
        Method method = methodOf(name);
        String[] texts = arguments.isEmpty() ? new String[0] : arguments.split(", ");
        Class<?>[] types = method.getParameterTypes();
        Object[] values = new Object[texts.length];
        for (int i = 0; i < texts.length; i++) {
            long value = Long.decode(texts[i]);
            values[i] = types[i] == int.class ? (Object) Math.toIntExact(value) : (Object) value;
        }
        Object answer = method.invoke(ledger, values);
        return answer instanceof Boolean yes ? (yes ? 1 : 0) : ((Number) answer).longValue();
    }

    private static Method methodOf(String name) throws NoSuchMethodException {
        for (Method method : ProvenLedger.class.getDeclaredMethods()) {
            if (method.getName().equals(name)) {
                return method;
            }
        }
        throw new NoSuchMethodException(name);
    }

    private static long due(String text) throws ReflectiveOperationException {
        if (text.equals("true") || text.equals("false")) {
            return text.equals("true") ? 1 : 0;
        }
        boolean constant = Character.isUpperCase(text.charAt(0));
        return constant ? ProvenLedger.class.getField(text).getInt(null) : Long.parseLong(text);
    }

    private static Set<String> namesOfTheFace() {
        Set<String> names = new TreeSet<>();
        for (Method method : ProvenLedger.class.getMethods()) {
            if (method.getDeclaringClass() == ProvenLedger.class) {
                names.add(method.getName());
            }
        }
        return names;
    }

    private static void namesEveryTest(String text) throws IOException {
        try (DirectoryStream<Path> files = Files.newDirectoryStream(TESTS, "*.java")) {
            for (Path file : files) {
                String name = file.getFileName().toString().replace(".java", "");
                DUE.isTrue(name + " stands in README.md", text.contains("`" + name + "`"));
            }
        }
    }
}
