import java.io.IOException;
import java.lang.reflect.Method;
import java.nio.file.Files;
import java.nio.file.Path;
import java.util.HashMap;
import java.util.Map;
import java.util.Set;
import java.util.TreeSet;
import java.util.regex.Matcher;
import java.util.regex.Pattern;

/** Makes each call of README.md's examples: the number behind its // is the answer. Run from the project's root. */
public final class ReadmeTest {
    private static final String NEW = "OilPush x = new OilPush();";
    private static final Pattern CALL =
        Pattern.compile("(?:int (\\w+) = )?x\\.(\\w+)\\(([^)]*)\\); +// (-?\\d+|[A-Z]+)(?:: .*)?");

    private final Check k = new Check("ReadmeTest");
    private final Map<String, Method> face = new HashMap<>();
    private final Set<String> shown = new TreeSet<>();
    private OilPush x;
    private final Map<String, Integer> named = new HashMap<>();

    private ReadmeTest() {
        for (Method m : OilPush.class.getDeclaredMethods()) {
            if ((m.getModifiers() & java.lang.reflect.Modifier.PUBLIC) != 0) {
                face.put(m.getName(), m);
            }
        }
    }

    private static long due(String word) throws ReflectiveOperationException {
        boolean number = word.matches("-?\\d+");
        return number ? Long.parseLong(word) : ((Number) OilPush.class.getField(word).get(null)).longValue();
    }

    private Object[] given(String list) {
        String[] words = list.isEmpty() ? new String[0] : list.split(", ");
        Object[] a = new Object[words.length];
        for (int i = 0; i < a.length; i++) {
            boolean truth = words[i].equals("true") || words[i].equals("false");
            a[i] = truth ? (Object) Boolean.valueOf(words[i]) : number(words[i]);
        }
        return a;
    }

    private Integer number(String word) {
        return named.containsKey(word) ? named.get(word) : Integer.valueOf(word);
    }

    private void row(String line) throws ReflectiveOperationException {
        if (line.equals(NEW)) {
            x = new OilPush();
            return;
        }
        Matcher m = CALL.matcher(line);
        boolean read = m.matches() && x != null && face.containsKey(m.group(2));
        k.isTrue(read, "a line of an example can be read: " + line);
        if (!read) {
            return;
        }
        long got = ((Number) face.get(m.group(2)).invoke(x, given(m.group(3)))).longValue();
        k.is(due(m.group(4)), got, line);
        shown.add(m.group(2));
        if (m.group(1) != null) {
            named.put(m.group(1), (int) got);
        }
    }

    private void examples(String text) throws ReflectiveOperationException {
        Matcher blocks = Pattern.compile("(?s)```java\n(.*?)```").matcher(text);
        int seen = 0;
        while (blocks.find()) {
            seen++;
            k.part("example " + seen);
            x = null;
            named.clear();
            for (String line : blocks.group(1).split("\n")) {
                row(line);
            }
        }
        k.part("all examples");
        k.isTrue(seen > 0, "README.md has examples");
        k.isTrue(shown.size() > 20, "they show most calls: " + shown);
    }

    /** README.md names every call, and every test that there is. */
    private void names(String text) throws IOException {
        k.part("names");
        for (String name : face.keySet()) {
            k.isTrue(text.contains("`" + name + "`"), "it names the call " + name);
        }
        try (var files = Files.list(Path.of("src/test/java"))) {
            files.map(f -> f.getFileName().toString()).filter(f -> f.endsWith("Test.java"))
                .map(f -> f.replace(".java", ""))
                .forEach(f -> k.isTrue(text.contains("| " + f + " |"), "it names the test " + f));
        }
    }

    public static void main(String[] args) throws IOException, ReflectiveOperationException {
        ReadmeTest t = new ReadmeTest();
        String text = Files.readString(Path.of("README.md"));
        t.examples(text);
        t.names(text);
        t.k.end();
    }
}
