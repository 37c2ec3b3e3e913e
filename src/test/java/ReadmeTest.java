import java.io.IOException;
import java.lang.reflect.InvocationTargetException;
import java.lang.reflect.Method;
import java.lang.reflect.Modifier;
import java.nio.file.Files;
import java.nio.file.Path;
import java.util.Map;
import java.util.TreeMap;
import java.util.regex.Matcher;
import java.util.regex.Pattern;

/** The README's calls answer as it tells, and it names every call of the face. */
public final class ReadmeTest {
    private static final Pattern BLOCK = Pattern.compile("(?s)```java\n(.*?)```");
    private static final Pattern CALL = Pattern.compile("drum\\.(\\w+)\\(([^)]*)\\); +// (-?\\w+)(: .*)?");
    private static final Checks checks = new Checks("ReadmeTest");
    private static final Map<String, Method> face = new TreeMap<>();

    public static void main(String[] args) throws IOException, IllegalAccessException {
        String text = Files.readString(Path.of("README.md"));
        for (Method method : SlitDrum.class.getDeclaredMethods()) {
            if (Modifier.isPublic(method.getModifiers())) {
                face.put(method.getName(), method);
                checks.same("README names " + method.getName(), text.contains("`" + method.getName() + "`"), true);
            }
        }
        Matcher block = BLOCK.matcher(text);
        checks.same("README has a use", block.find(), true);
        String[] lines = block.group(1).split("\n");
        checks.same("it begins with " + lines[0], lines[0].equals("SlitDrum drum = new SlitDrum();"), true);
        SlitDrum drum = new SlitDrum();
        for (int i = 1; i < lines.length; i++) {
            Matcher call = CALL.matcher(lines[i]);
            checks.same("a call with its answer: " + lines[i], call.matches(), true);
            String got = answer(drum, face.get(call.group(1)), call.group(2).split(", *"));
            checks.same(lines[i] + " answered " + got, got.equals(call.group(3)), true);
        }
        checks.end();
    }

    private static String answer(SlitDrum drum, Method method, String[] words) throws IllegalAccessException {
        Class<?>[] types = method.getParameterTypes();
        Object[] values = new Object[types.length];
        for (int i = 0; i < types.length; i++) {
            if (types[i] == int.class) {
                values[i] = Long.decode(words[i]).intValue();
            } else if (types[i] == long.class) {
                values[i] = Long.decode(words[i].replace("L", ""));
            } else {
                values[i] = words[i].equals("true");
            }
        }
        try {
            return method.invoke(drum, values).toString();
        } catch (InvocationTargetException e) {
            return e.getCause().getClass().getSimpleName();
        }
    }
}
