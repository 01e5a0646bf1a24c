import java.io.PrintWriter;
import java.io.StringWriter;
import java.net.URISyntaxException;
import java.nio.file.Path;
import java.util.ArrayList;
import java.util.HashMap;
import java.util.HashSet;
import java.util.List;
import java.util.Map;
import java.util.Optional;
import java.util.Set;
import java.util.TreeMap;
import java.util.TreeSet;
import java.util.regex.Matcher;
import java.util.regex.Pattern;
import java.util.spi.ToolProvider;

/** LANGUAGE.md, what the compiled class shows: how deep calls go, and what it takes of the library. */
public final class BytecodeTest {
    private static final int DEEPEST = 8;
    private static final Set<String> LIBRARY = Set.of("java/lang/Object.\"<init>\"", "java/lang/Math.min",
        "java/lang/Math.max", "java/lang/Integer.bitCount", "java/lang/String.length", "java/lang/String.charAt",
        "java/lang/String.indexOf", "java/lang/System.arraycopy", "java/util/Arrays.fill", "java/util/Arrays.copyOf");
    private static final Check CHECK = new Check();

    /** Of each method the methods of the program that it calls. */
    private final Map<String, Set<String>> calls = new TreeMap<>();
    private final Map<String, Integer> depths = new HashMap<>();

    public static void main(String[] args) throws URISyntaxException {
        Optional<ToolProvider> javap = ToolProvider.findFirst("javap");
        if (javap.isEmpty()) {
            System.out.println("this Java has no javap: nothing is looked at");
            return;
        }
        BytecodeTest test = new BytecodeTest();
        test.read(disassembled(javap.get()));
        CHECK.due("the classes were found", test.calls.size() > 100 ? 1 : 0, 1);
        Map<String, Set<String>> reached = test.reached();
        for (String method : test.calls.keySet()) {
            int depth = test.depth(method, reached);
            CHECK.due("calls go too deep from " + method + ": " + depth, depth <= DEEPEST ? 1 : 0, 1);
        }
        CHECK.end();
    }

    private static String disassembled(ToolProvider javap) throws URISyntaxException {
        Path folder = Path.of(OrderMerge.class.getProtectionDomain().getCodeSource().getLocation().toURI());
        List<String> words = new ArrayList<>(List.of("-p", "-c", "-cp", folder.toString(), "OrderMerge"));
        for (Class<?> one : OrderMerge.class.getDeclaredClasses()) {
            words.add(one.getName());
        }
        StringWriter into = new StringWriter();
        PrintWriter out = new PrintWriter(into);
        javap.run(out, out, words.toArray(new String[0]));
        return into.toString();
    }

    private void read(String text) {
        Pattern classHead = Pattern.compile("^(?:\\w+ )*class (\\S+)(?: .*)?\\{$");
        Pattern methodHead = Pattern.compile("^  (?:[\\w$\\[\\].]+ )*([\\w$]+)\\(.*\\);$");
        Pattern invoked = Pattern.compile("invoke\\w+ .*// (?:Interface)?Method (?:([\\w$/]+)\\.)?(\"<init>\"|[\\w$]+):.*");
        String owner = "";
        Set<String> current = new TreeSet<>();
        for (String row : text.split("\n")) {
            Matcher head = classHead.matcher(row);
            Matcher method = methodHead.matcher(row);
            Matcher call = invoked.matcher(row);
            if (head.matches()) {
                owner = head.group(1);
            } else if (method.matches()) {
                String name = method.group(1).equals(owner) ? "\"<init>\"" : method.group(1);
                current = calls.computeIfAbsent(owner + "." + name, k -> new TreeSet<>());
            } else if (call.find()) {
                String to = call.group(1) == null ? owner : call.group(1);
                note(current, to + "." + call.group(2));
            }
            CHECK.due("ruled out: " + row, row.matches(".*: (athrow|monitorenter|invokedynamic)\\b.*") ? 1 : 0, 0);
        }
    }

    private static void note(Set<String> current, String called) {
        if (called.startsWith("OrderMerge")) {
            current.add(called);
        } else {
            boolean open = LIBRARY.contains(called) || called.matches("\"\\[.*\\.clone");
            CHECK.due("of the library: " + called, open ? 1 : 0, 1);
        }
    }

    /** Of each method all that it can come to, over however many calls. */
    private Map<String, Set<String>> reached() {
        Map<String, Set<String>> all = new HashMap<>();
        calls.forEach((from, to) -> all.put(from, new HashSet<>(to)));
        boolean more = true;
        while (more) {
            more = false;
            for (Set<String> row : all.values()) {
                for (String to : List.copyOf(row)) {
                    more |= row.addAll(all.getOrDefault(to, Set.of()));
                }
            }
        }
        return all;
    }

    /** Methods that call one another are a recursion, which has a guard of its own: one level in all. */
    private int depth(String method, Map<String, Set<String>> reached) {
        Integer known = depths.get(method);
        if (known != null) {
            return known;
        }
        Set<String> knot = new HashSet<>(Set.of(method));
        for (String other : reached.get(method)) {
            if (reached.getOrDefault(other, Set.of()).contains(method)) {
                knot.add(other);
            }
        }
        int deepest = 0;
        for (String one : knot) {
            for (String to : calls.getOrDefault(one, Set.of())) {
                deepest = knot.contains(to) ? deepest : Math.max(deepest, depth(to, reached));
            }
        }
        depths.put(method, deepest + 1);
        return deepest + 1;
    }
}
