import java.io.PrintWriter;
import java.io.StringWriter;
import java.nio.file.Files;
import java.nio.file.Path;
import java.util.ArrayList;
import java.util.List;
import java.util.Map;
import java.util.Optional;
import java.util.Set;
import java.util.TreeMap;
import java.util.TreeSet;
import java.util.regex.Matcher;
import java.util.regex.Pattern;
import java.util.spi.ToolProvider;
import java.util.stream.Stream;

/**
 * What the compiled class calls: of the library only what rule 4 of LANGUAGE.md lists, itself at most eight deep
 * (rule 11), in a ring only where an order is read (rule 8), and nothing that throws or catches (rule 6).
 */
public final class CallsTest {
    private static final Set<String> LIBRARY = Set.of(
            "java/lang/Object.<init>", "java/lang/Math.max", "java/lang/Math.min", "java/lang/Math.abs",
            "java/lang/Integer.bitCount", "java/lang/System.arraycopy", "java/util/Arrays.copyOf",
            "java/util/Arrays.copyOfRange", "java/util/Arrays.fill", "[I.clone");
    private static final Set<String> READING = Set.of(
            "CrowdOut$Reader.readOrs", "CrowdOut$Reader.readAnds", "CrowdOut$Reader.readTest");
    private static final String[] RULED_OUT = {"athrow", "monitorenter", "invokedynamic", "Exception table:"};
    private static final int MOST_DEEP = 8;

    private static final Pattern METHOD = Pattern.compile("  \\S.*?([\\w$<>.]+)\\(.*\\)( throws .*)?;");
    private static final Pattern CALL = Pattern.compile(
            "invoke\\w+ .*// (?:Interface)?Method (?:(\"?[\\w/$\\[]+\"?)\\.)?\"?([\\w<>]+)\"?:");
    private static int wrong = 0;

    /** Of each method, by its class and name, what it calls of the class itself. */
    private final Map<String, Set<String>> calls = new TreeMap<>();

    public static void main(String[] args) throws Exception {
        Optional<ToolProvider> javap = ToolProvider.findFirst("javap");
        if (javap.isEmpty()) {
            System.out.println("not tried: there is no javap here");
            return;
        }
        CallsTest test = new CallsTest();
        for (String file : classFiles()) test.read(file, shown(javap.get(), file));
        due(test.calls.size() > 100, "only " + test.calls.size() + " methods were found");
        for (String method : test.calls.keySet()) test.ring(method);
        int deepest = 0;
        for (String method : test.calls.keySet()) {
            List<String> path = test.deepest(method, new ArrayList<>());
            deepest = Math.max(deepest, path.size());
            due(path.size() <= MOST_DEEP, "rule 11: " + path.size() + " deep: " + path);
        }
        System.out.println(test.calls.size() + " methods, " + deepest + " deep at most, " + wrong + " rules broken");
        if (wrong != 0) System.exit(1);
    }

    private static void due(boolean holds, String what) {
        if (!holds) {
            wrong++;
            System.out.println(what);
        }
    }

    private static List<String> classFiles() throws Exception {
        Path place = Path.of(CrowdOut.class.getProtectionDomain().getCodeSource().getLocation().toURI());
        List<String> files = new ArrayList<>();
        try (Stream<Path> all = Files.list(place)) {
            all.map(Path::toString).filter(f -> f.matches(".*/CrowdOut(\\$\\w+)?\\.class")).sorted().forEach(files::add);
        }
        return files;
    }

    private static String shown(ToolProvider javap, String file) {
        StringWriter text = new StringWriter();
        PrintWriter to = new PrintWriter(text, true);
        javap.run(to, to, "-p", "-c", file);
        return text.toString();
    }

    private void read(String file, String text) {
        String owner = file.replaceAll(".*/|\\.class$", "");
        String method = "";
        for (String line : text.split("\n")) {
            Matcher begins = METHOD.matcher(line);
            if (begins.matches()) {
                String name = begins.group(1);
                method = owner + "." + (name.equals(owner) ? "<init>" : name);
                calls.putIfAbsent(method, new TreeSet<>());
            }
            for (String out : RULED_OUT) due(!line.contains(out), "rule 6: " + out + " in " + method);
            Matcher call = CALL.matcher(line);
            if (call.find()) note(method, call.group(1) == null ? owner : call.group(1).replace("\"", ""), call.group(2));
            else due(!line.matches(".*: invoke.*"), "not understood: " + line);
        }
    }

    private void note(String method, String owner, String name) {
        if (owner.startsWith("CrowdOut")) calls.get(method).add(owner + "." + name);
        else due(LIBRARY.contains(owner + "." + name), "rule 4: " + owner + "." + name + " in " + method);
    }

    /** Whether a method comes back to itself. */
    private void ring(String method) {
        Set<String> reached = new TreeSet<>();
        List<String> open = new ArrayList<>(calls.get(method));
        while (!open.isEmpty()) {
            String next = open.remove(open.size() - 1);
            if (reached.add(next)) open.addAll(calls.getOrDefault(next, Set.of()));
        }
        due(!reached.contains(method) || READING.contains(method), "rule 8: " + method + " comes back to itself");
    }

    /** The longest row of calls from a method on, none twice in it. */
    private List<String> deepest(String method, List<String> above) {
        List<String> row = new ArrayList<>(above);
        row.add(method);
        List<String> longest = row;
        for (String next : calls.getOrDefault(method, Set.of())) {
            if (row.contains(next)) continue;
            List<String> found = deepest(next, row);
            if (found.size() > longest.size()) longest = found;
        }
        return longest;
    }
}
