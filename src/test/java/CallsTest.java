import java.io.IOException;
import java.io.PrintWriter;
import java.io.StringWriter;
import java.nio.file.Files;
import java.nio.file.Path;
import java.util.HashMap;
import java.util.HashSet;
import java.util.Map;
import java.util.Set;
import java.util.TreeMap;
import java.util.TreeSet;
import java.util.regex.Matcher;
import java.util.regex.Pattern;
import java.util.spi.ToolProvider;

/**
 * LANGUAGE.md, rules 4 and 11, in the compiled class: which calls stand in it, how deep they go. Calls that call one
 * another again (rule 8) count as one.
 */
public final class CallsTest {
    private static final int DEEPEST = 8;
    private static final Set<String> LIBRARY = Set.of("java/lang/Object.<init>", "java/lang/Math.max", "java/lang/Math.min",
        "java/lang/Integer.bitCount", "java/lang/System.arraycopy", "java/util/Arrays.fill");
    // Those that may call themselves or one another: each carries its depth, or a limit of the document keeps it low.
    private static final Set<String> AGAIN = Set.of("Law.readE", "Law.readA", "Law.readB", "Law.readS", "Law.readP", "Law.readO",
        "Law.readToBracket", "Law.readSigned", "Masons.tryOrders", "Masons.bestGain", "Masons.gainBy",
        "Bodies.own", "Bodies.above", "Bodies.runFrom", "Bodies.run");
    private static final Pattern HEAD = Pattern.compile("  [^ ].*?([\\w$]+)\\(.*\\);|  (static) \\{\\};");
    private static final Pattern CALLED = Pattern.compile("invoke\\w+ .*// (?:Interface)?Method ([^:]+):");

    private final Map<String, Set<String>> calls = new TreeMap<>();
    private final Map<String, Integer> depths = new HashMap<>();

    public static void main(String[] args) throws IOException {
        CallsTest test = new CallsTest();
        test.read("ToadWall");
        for (Class<?> inside : ToadWall.class.getDeclaredClasses()) test.read(inside.getName());
        Set<String> again = new TreeSet<>();
        for (String method : test.calls.keySet()) if (test.reached(method).contains(method)) again.add(method);
        Check.holds("8: these call themselves or one another: " + again, again.equals(AGAIN));
        for (String method : test.calls.keySet()) {
            Check.holds("11: " + method + " goes " + test.depth(method) + " deep", test.depth(method) <= DEEPEST);
        }
        Check.end("CallsTest");
    }

    private void read(String name) throws IOException {
        String method = "";
        for (String line : disassembled(name).split("\n")) {
            Matcher head = HEAD.matcher(line), called = CALLED.matcher(line);
            if (head.matches()) {
                String itself = head.group(1) == null || head.group(1).equals(name) ? "<init>" : head.group(1);
                method = told(name) + "." + itself;
                calls.computeIfAbsent(method, m -> new TreeSet<>());
            }
            if (called.find()) takeCall(name, method, called.group(1).replace("\"", ""));
        }
    }

    private void takeCall(String name, String method, String called) {
        String whole = called.contains(".") ? called : name + "." + called;
        if (whole.startsWith("ToadWall")) calls.get(method).add(told(whole));
        else Check.holds("4: " + method + " calls " + whole, LIBRARY.contains(whole));
    }

    private static String told(String name) {
        return name.replace("ToadWall$", "");
    }

    private static String disassembled(String name) throws IOException {
        Path folder = Files.createTempDirectory("calls"), file = folder.resolve(name + ".class");
        try {
            Files.write(file, ToadWall.class.getResourceAsStream(name + ".class").readAllBytes());
            StringWriter out = new StringWriter();
            ToolProvider.findFirst("javap").orElseThrow()
                .run(new PrintWriter(out), new PrintWriter(System.err, true), "-p", "-c", file.toString());
            return out.toString();
        } finally {
            Files.deleteIfExists(file);
            Files.deleteIfExists(folder);
        }
    }

    private Set<String> reached(String method) {
        Set<String> all = new HashSet<>();
        reach(method, all);
        return all;
    }

    private void reach(String method, Set<String> all) {
        for (String next : calls.getOrDefault(method, Set.of())) if (all.add(next)) reach(next, all);
    }

    private int depth(String method) {
        Integer known = depths.get(method);
        if (known != null) return known;
        int deepest = 0;
        Set<String> together = reached(method);
        together.removeIf(m -> !reached(m).contains(method));
        together.add(method);
        for (String one : together) {
            for (String next : calls.getOrDefault(one, Set.of())) if (!together.contains(next)) deepest = Math.max(deepest, depth(next));
        }
        depths.put(method, deepest + 1);
        return deepest + 1;
    }
}
