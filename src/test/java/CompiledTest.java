import java.io.File;
import java.io.PrintWriter;
import java.io.StringWriter;
import java.net.URISyntaxException;
import java.util.ArrayList;
import java.util.HashMap;
import java.util.HashSet;
import java.util.List;
import java.util.Map;
import java.util.Set;
import java.util.TreeSet;
import java.util.regex.Matcher;
import java.util.regex.Pattern;
import java.util.spi.ToolProvider;

/** The compiled class, as javap tells it, is held to the rules of LANGUAGE.md that speak of calls and of the library. */
public final class CompiledTest {
    private static final Checks CHECKS = new Checks();
    private static final int DEEPEST = 8;
    private static final Pattern HEAD = Pattern.compile("  (?:[^(]* )?([\\w$]+)\\(.*\\).*;");
    private static final Pattern INVOKED =
        Pattern.compile("invoke\\w+ .*// (?:Interface)?Method (?:([\\w/$]+)\\.)?\"?([\\w<>]+)\"?:.*");
    private static final Set<String> LIBRARY = Set.of("java/lang/Object.<init>", "java/lang/IllegalStateException.<init>",
        "java/lang/IllegalArgumentException.<init>", "java/lang/IndexOutOfBoundsException.<init>", "java/lang/Math.abs",
        "java/lang/Math.floorDiv", "java/lang/Math.floorMod", "java/lang/Math.max", "java/lang/Math.min",
        "java/lang/System.arraycopy", "java/util/Arrays.copyOf", "java/util/Arrays.fill");

    private static final String[] NONE = {"invokedynamic", "monitorenter", "drem", "frem", "putstatic"};

    // Which methods each method calls, those of the library by themselves.
    private static final Map<String, Set<String>> CALLS = new HashMap<>();
    private static final Set<String> USED = new TreeSet<>();
    private static final Map<String, Integer> DEPTHS = new HashMap<>();

    private static List<String> classes() throws URISyntaxException {
        File folder = new File(NoteDocument.class.getProtectionDomain().getCodeSource().getLocation().toURI());
        List<String> names = new ArrayList<>();
        for (String name : folder.list()) {
            if (name.matches("NoteDocument(\\$\\w+)?\\.class")) {
                names.add(new File(folder, name).getPath());
            }
        }
        return names;
    }

    private static void readClass(ToolProvider javap, String file) {
        StringWriter text = new StringWriter();
        PrintWriter to = new PrintWriter(text, true);
        javap.run(to, to, "-p", "-c", file);
        String type = new File(file).getName().replace(".class", "");
        String method = "";
        for (String line : text.toString().split("\n")) {
            Matcher head = HEAD.matcher(line);
            if (head.matches()) {
                String name = head.group(1);
                method = type + "." + (name.equals(type) ? "<init>" : name);
                CALLS.putIfAbsent(method, new HashSet<>());
            }
            readLine(type, method, line.strip());
        }
        CHECKS.due(type + " has no block of its own for what is static", !text.toString().contains("static {}"));
        CHECKS.due(type + " catches nothing", !text.toString().contains("Exception table"));
        for (String none : NONE) {
            CHECKS.due(type + " has no " + none, !text.toString().contains(": " + none));
        }
    }

    private static void readLine(String type, String method, String line) {
        Matcher invoked = INVOKED.matcher(line);
        if (invoked.find()) {
            String owner = invoked.group(1) == null ? type : invoked.group(1);
            String called = owner + "." + invoked.group(2);
            if (owner.startsWith("NoteDocument")) {
                CALLS.get(method).add(called);
            } else {
                USED.add(called);
            }
        }
        if (method.endsWith("<init>") && line.contains(": athrow")) {
            CHECKS.due(method + " throws nothing", false);
        }
    }

    /** All that a method calls, by way of others, too. */
    private static Set<String> reached(String method) {
        Set<String> all = new HashSet<>();
        List<String> open = new ArrayList<>(CALLS.get(method));
        while (!open.isEmpty()) {
            String next = open.remove(open.size() - 1);
            if (all.add(next)) {
                open.addAll(CALLS.get(next));
            }
        }
        return all;
    }

    /** How many calls stand open at most from a method on, those left out by which it calls itself. */
    private static int depthOf(String method) {
        Integer known = DEPTHS.get(method);
        if (known != null) {
            return known;
        }
        int depth = 0;
        for (String called : CALLS.get(method)) {
            if (!called.equals(method)) {
                depth = Math.max(depth, depthOf(called));
            }
        }
        DEPTHS.put(method, depth + 1);
        return depth + 1;
    }

    public static void main(String[] args) throws URISyntaxException {
        ToolProvider javap = ToolProvider.findFirst("javap").orElse(null);
        if (javap == null) {
            CHECKS.due("without javap there is nothing to look at", true);
            CHECKS.end();
        }
        for (String file : classes()) {
            readClass(javap, file);
        }
        CHECKS.promise("Rule 4");
        CHECKS.due("nothing else of the library: " + USED, LIBRARY.containsAll(USED));
        CHECKS.promise("Rule 8");
        Set<String> recursive = new TreeSet<>();
        for (String method : CALLS.keySet()) {
            if (reached(method).contains(method)) {
                recursive.add(method);
            }
        }
        CHECKS.due("what calls itself", recursive.toString(), "[NoteDocument$Runner.evaluate]");
        CHECKS.promise("Rule 11");
        for (String method : CALLS.keySet()) {
            CHECKS.due(method + " goes at most eight deep", depthOf(method) <= DEEPEST);
        }
        CHECKS.end();
    }
}
