import java.io.File;
import java.io.PrintWriter;
import java.io.StringWriter;
import java.util.ArrayList;
import java.util.List;
import java.util.Map;
import java.util.Set;
import java.util.TreeMap;
import java.util.TreeSet;
import java.util.regex.Matcher;
import java.util.regex.Pattern;
import java.util.spi.ToolProvider;

/** Who calls whom, seen from the compiled class: rules 2, 4, 8, 10 and 11 of ../shared/LANGUAGE.md. */
public final class CallsTest {
    private static final int DEEPEST = 8;
    private static final Map<String, Set<String>> LIBRARY = Map.of(
            "java/lang/Object", Set.of("<init>"),
            "java/lang/String",
            Set.of("length", "charAt", "isEmpty", "equals", "indexOf", "substring", "toCharArray", "<init>"),
            "java/lang/StringBuilder",
            Set.of("<init>", "append", "charAt", "setCharAt", "setLength", "deleteCharAt", "reverse", "length",
                    "toString"),
            "java/lang/System", Set.of("arraycopy"),
            "java/util/Arrays", Set.of("copyOf", "copyOfRange", "fill"),
            "java/util/NoSuchElementException", Set.of("<init>"));
    private static final Pattern CLASS = Pattern.compile("^[a-z ]*class ([\\w$]+)(?: extends ([\\w$]+))? \\{");
    private static final Pattern METHOD = Pattern.compile("^  (?:[^ (][^(]* )?([\\w$]+)\\([^)]*\\)(?: throws .*)?;$");
    private static final Pattern CALL =
            Pattern.compile("invoke\\w+ .*// (?:Interface)?Method (?:(\\S+)\\.)?\"?([\\w<>]+)\"?:(\\S+)");
    private static final Pattern FORBIDDEN = Pattern.compile(": (invokedynamic|monitorenter|monitorexit|[fd]rem)");

    private static final Checks checks = new Checks("CallsTest");
    private static final Map<String, String> above = new TreeMap<>();
    private static final Map<String, Set<String>> written = new TreeMap<>();
    private static final Map<String, Set<String>> calls = new TreeMap<>();

    public static void main(String[] args) throws Exception {
        read(compiled());
        for (String method : written.keySet()) {
            calls.put(method, new TreeSet<>());
            for (String called : written.get(method)) {
                resolve(method, called);
            }
        }
        checks.same("the constructor and more is seen", calls.size() > 100, true);
        for (String method : calls.keySet()) {
            boolean ofFace = method.startsWith("SlitDrum.");
            checks.same(method + " goes through itself", ofFace && reach(method).contains(method), false);
        }
        for (String method : calls.keySet()) {
            List<String> chain = longest(method);
            checks.same("calls go too deep: " + chain, chain.size() <= DEEPEST, true);
        }
        checks.end();
    }

    /** What javap tells of SlitDrum and all classes inside it. */
    private static String compiled() throws Exception {
        File[] files = new File(SlitDrum.class.getProtectionDomain().getCodeSource().getLocation().toURI()).listFiles();
        List<String> words = new ArrayList<>(List.of("-p", "-c"));
        for (File file : files) {
            if (file.getName().matches("SlitDrum(\\$\\w+)?\\.class")) {
                words.add(file.getPath());
            }
        }
        StringWriter told = new StringWriter();
        PrintWriter out = new PrintWriter(told);
        ToolProvider.findFirst("javap").orElseThrow().run(out, out, words.toArray(new String[0]));
        out.flush();
        return told.toString();
    }

    private static void read(String told) {
        String of = "";
        String method = "";
        for (String line : told.split("\n")) {
            Matcher opens = CLASS.matcher(line);
            Matcher begins = METHOD.matcher(line);
            Matcher goes = CALL.matcher(line);
            if (opens.find()) {
                of = opens.group(1);
                above.put(of, opens.group(2) == null ? "" : opens.group(2));
            } else if (begins.find() || line.equals("  static {};")) {
                boolean bare = line.equals("  static {};");
                method = of + "." + (bare ? "<clinit>" : begins.group(1).equals(of) ? "<init>" : begins.group(1));
                written.putIfAbsent(method, new TreeSet<>());
            } else if (goes.find()) {
                written.get(method).add((goes.group(1) == null ? of : goes.group(1)) + "." + goes.group(2));
                numbersAlone(method, goes.group(1), goes.group(2), goes.group(3));
            }
            checks.same(method + " has" + line, FORBIDDEN.matcher(line).find(), false);
        }
    }

    /** Math, Integer and Long only over int and long, and none that ends in Exact. */
    private static void numbersAlone(String method, String of, String name, String types) {
        if (of != null && of.matches("java/lang/(Math|Integer|Long)")) {
            boolean fine = types.matches("\\([IJ]*\\)[IJZ]") && !name.endsWith("Exact");
            checks.same(method + " calls " + of + "." + name + types, fine, true);
        }
    }

    /** A call goes to the method of the class named, of one above it, or of any below it. */
    private static void resolve(String method, String called) {
        int dot = called.lastIndexOf('.');
        String of = called.substring(0, dot);
        String name = called.substring(dot + 1);
        if (!of.startsWith("SlitDrum")) {
            boolean listed = of.matches("java/lang/(Math|Integer|Long)")
                    || LIBRARY.getOrDefault(of, Set.of()).contains(name);
            checks.same(method + " calls " + called + ", which is not in rule 4", listed, true);
            return;
        }
        boolean found = false;
        for (String one = of; !one.isEmpty() && !found; one = above.getOrDefault(one, "")) {
            found = written.containsKey(one + "." + name);
            if (found) {
                calls.get(method).add(one + "." + name);
            }
        }
        for (String below : above.keySet()) {
            if (above.get(below).equals(of) && !name.equals("<init>") && written.containsKey(below + "." + name)) {
                found = true;
                calls.get(method).add(below + "." + name);
            }
        }
        checks.same(method + " calls " + called + ", which is nowhere", found, true);
    }

    /** All that can be called from a method, by whatever way. */
    private static Set<String> reach(String method) {
        Set<String> reached = new TreeSet<>();
        List<String> open = new ArrayList<>(calls.get(method));
        while (!open.isEmpty()) {
            String next = open.remove(open.size() - 1);
            if (reached.add(next)) {
                open.addAll(calls.get(next));
            }
        }
        return reached;
    }

    /** The longest chain of calls from a method on, methods that go round through one another being one. */
    private static List<String> longest(String method) {
        List<String> best = new ArrayList<>();
        Set<String> round = new TreeSet<>(Set.of(method));
        for (String other : reach(method)) {
            if (reach(other).contains(method)) {
                round.add(other);
            }
        }
        for (String one : round) {
            for (String next : calls.get(one)) {
                List<String> chain = round.contains(next) ? List.of() : longest(next);
                best = chain.size() > best.size() ? chain : best;
            }
        }
        List<String> all = new ArrayList<>(List.of(method));
        all.addAll(best);
        return all;
    }
}
