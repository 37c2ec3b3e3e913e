import java.io.IOException;
import java.lang.reflect.Field;
import java.lang.reflect.Method;
import java.lang.reflect.Modifier;
import java.nio.charset.StandardCharsets;
import java.nio.file.Files;
import java.nio.file.Path;
import java.util.Set;
import java.util.regex.Matcher;
import java.util.regex.Pattern;

/** What of ../shared/LANGUAGE.md can be seen from the text of the class and from its parts. */
public final class LanguageTest {
    private static final Checks checks = new Checks("LanguageTest");
    private static final Set<String> IMPORTS = Set.of("java.util.Arrays", "java.util.NoSuchElementException",
            "java.util.ArrayList", "java.util.List", "java.util.Iterator");
    private static final String[] NEVER = {"->", "::", "\\btry\\b", "\\bcatch\\b", "\\bfinally\\b", "\\bsynchronized\\b",
        "\\bassert\\b", "\\bpackage\\b", "\\bnative\\b", "\\bvolatile\\b", "\\bvar\\b", "@", "Exact\\b", "\\bObject\\b",
        "static \\{", "hashCode|equals\\(|toString|getMessage", "Thread|Random|currentTime|nanoTime"};

    public static void main(String[] args) throws IOException {
        String text = Files.readString(Path.of("src/main/java/SlitDrum.java"), StandardCharsets.ISO_8859_1);
        String code = text.replaceAll("(?s)/\\*.*?\\*/", "").replaceAll("//[^\n]*", "");
        for (String never : NEVER) {
            checks.same(never, Pattern.compile(never).matcher(code).find(), false);
        }
        checks.same("signs 1 to 127", text.chars().allMatch(sign -> sign > 0 && sign < 128), true);
        Matcher imports = Pattern.compile("import ([^;]*);").matcher(code);
        while (imports.find()) {
            checks.same("import " + imports.group(1), IMPORTS.contains(imports.group(1)), true);
        }
        Matcher thrown = Pattern.compile("throw (?!new NoSuchElementException\\(\"[a-z ]*\"\\);)").matcher(code);
        checks.same("another throw", thrown.find(), false);
        methodsAreShort(code);
        classes();
        checks.end();
    }

    private static void methodsAreShort(String code) {
        int start = -1;
        String[] lines = code.split("\n");
        for (int i = 0; i < lines.length; i++) {
            if (lines[i].matches(" {4,8}[a-zA-Z].*\\) (throws \\w+ )?\\{")) {
                start = i;
            }
            if (lines[i].matches(" {4,8}\\}") && start >= 0) {
                checks.same("line " + start + " begins a long method", i - start <= 60, true);
                start = -1;
            }
        }
    }

    private static void classes() {
        Class<?>[] inside = SlitDrum.class.getDeclaredClasses();
        checks.same("at most twelve classes", inside.length + 1 <= 12, true);
        parts(SlitDrum.class);
        for (Class<?> one : inside) {
            parts(one);
        }
    }

    private static void parts(Class<?> of) {
        int own = 0;
        for (Field field : of.getDeclaredFields()) {
            boolean shared = Modifier.isStatic(field.getModifiers());
            own += shared ? 0 : 1;
            checks.same(field + " is final", !shared || Modifier.isFinal(field.getModifiers()), true);
        }
        checks.same(of + " has twenty fields at most", own <= 20, true);
        for (Method method : of.getDeclaredMethods()) {
            checks.same(method + " takes seven at most", method.getParameterCount() <= 7, true);
        }
    }
}
