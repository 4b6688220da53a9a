import java.io.IOException;
import java.lang.reflect.Method;
import java.lang.reflect.Modifier;
import java.nio.file.Files;
import java.nio.file.Path;
import java.util.Set;
import java.util.TreeSet;
import java.util.regex.Matcher;
import java.util.regex.Pattern;

/** What of LANGUAGE.md can be seen in the text and in the compiled class; run from the project's root. */
public final class LanguageTest {
    private static final String[] RULED_OUT = {"\\bthrows?\\b", "\\btry\\b", "\\bcatch\\b", "\\bsynchronized\\b",
        "\\bassert\\b", "->", "::", "\\bpackage\\b", "Exact\\b", "\\.equals\\(", "\\bhashCode\\b", "\\btoString\\b",
        "\\bSystem\\.(?!arraycopy\\b)", "\\bThread\\b", "\\bRandom\\b", "\\bdouble\\b", "\\bfloat\\b", "\"", "@"};

    private static void words(Check k, String text) {
        k.part("words");
        for (String out : RULED_OUT) {
            Matcher m = Pattern.compile(out).matcher(text);
            k.isTrue(!m.find(), "the text is free of " + out);
        }
        Matcher imports = Pattern.compile("import ([^;]+);").matcher(text);
        while (imports.find()) {
            k.isTrue(imports.group(1).equals("java.util.Arrays"), "import of " + imports.group(1));
        }
        k.isTrue(Files.exists(Path.of(".ci/run")), "the test runs in the project's root");
    }

    private static void sizes(Check k, String[] lines) {
        k.part("sizes");
        int begin = -1;
        for (int i = 0; i < lines.length; i++) {
            String l = lines[i];
            boolean head = l.matches("( {4}| {8})[^ }].*\\) \\{") && !l.contains(" class ");
            begin = head ? i : begin;
            if (l.matches("( {4}| {8})}") && begin >= 0) {
                k.isTrue(i - begin < 60, "a method of at most 60 lines: " + lines[begin]);
                begin = -1;
            }
        }
        int classes = 1 + OilPush.class.getDeclaredClasses().length;
        k.isTrue(classes <= 12, "at most twelve classes: " + classes);
        for (Class<?> c : OilPush.class.getDeclaredClasses()) {
            k.isTrue(Modifier.isStatic(c.getModifiers()), c + " is static");
            k.isTrue(c.getDeclaredFields().length <= 20, "at most twenty fields in " + c);
        }
    }

    private static void names(Check k) {
        k.part("names");
        Set<String> open = new TreeSet<>();
        for (Method m : OilPush.class.getMethods()) {
            open.add(m.getName());
        }
        TreeSet<String> own = new TreeSet<>();
        for (Class<?> c : OilPush.class.getDeclaredClasses()) {
            for (Method m : c.getDeclaredMethods()) {
                own.add(m.getName());
                k.isTrue(m.getParameterCount() <= 7, "at most seven parameters: " + m);
            }
        }
        for (Method m : OilPush.class.getDeclaredMethods()) {
            if (Modifier.isPrivate(m.getModifiers())) {
                own.add(m.getName());
                k.isTrue(m.getParameterCount() <= 7, "at most seven parameters: " + m);
            }
        }
        for (String name : own) {
            k.isTrue(!open.contains(name), "no method inside bears a public one's name: " + name);
        }
    }

    public static void main(String[] args) throws IOException {
        Check k = new Check("LanguageTest");
        String text = Files.readString(Path.of("src/main/java/OilPush.java"));
        String bare = text.replaceAll("(?s)/\\*.*?\\*/", "").replaceAll("//[^\n]*", "");
        words(k, bare);
        sizes(k, bare.split("\n"));
        names(k);
        k.end();
    }
}
