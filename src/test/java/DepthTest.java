import java.io.PrintWriter;
import java.io.StringWriter;
import java.nio.file.Files;
import java.nio.file.Path;
import java.util.HashMap;
import java.util.HashSet;
import java.util.Map;
import java.util.Set;
import java.util.TreeMap;
import java.util.TreeSet;
import java.util.regex.Matcher;
import java.util.regex.Pattern;
import java.util.spi.ToolProvider;
import java.util.stream.Stream;

/** How deep calls go (LANGUAGE.md, rules 8 and 11), as the compiled class shows it. */
public final class DepthTest {
    private static final Check C = new Check();
    private static final int MOST = 8;
    private static final Pattern METHOD =
            Pattern.compile(" +(public )?(?:(?:private|static|final) )*(?:\\S+ )?([\\w$.]+)\\([^)]*\\).*;");
    private static final Pattern CALL = Pattern.compile(".*invoke\\w+ .*// Method ([^:]+):.*");

    private final Map<String, Set<String>> calls = new TreeMap<>();
    private final Set<String> face = new TreeSet<>();
    private final Map<String, Integer> deep = new HashMap<>();

    public static void main(String[] args) throws Exception {
        ToolProvider shown = ToolProvider.findFirst("javap").orElse(null);
        if (shown == null) {
            System.out.println("notice: no javap is there, so no depth is seen");
        } else {
            new DepthTest().go(shown);
        }
        C.end("DepthTest");
    }

    private void go(ToolProvider shown) throws Exception {
        Path home = Path.of(RingDisk.class.getProtectionDomain().getCodeSource().getLocation().toURI());
        try (Stream<Path> files = Files.list(home)) {
            for (Path file : files.filter(f -> f.getFileName().toString().matches("RingDisk(\\$\\w+)?\\.class")).toList()) {
                StringWriter text = new StringWriter();
                shown.run(new PrintWriter(text), new PrintWriter(text), "-c", "-p", file.toString());
                note(file.getFileName().toString().replace(".class", ""), text.toString());
            }
        }
        C.due("methods of the face with the constructor", face.size(), 25);
        Set<String> again = new TreeSet<>();
        for (String method : calls.keySet()) {
            if (reached(method).contains(method)) {
                again.add(method.replaceAll(".*\\.", ""));
            }
        }
        C.due("only what reads an E calls itself: " + again,
                again.equals(Set.of("readAny", "readTest", "readSum", "readTerm", "readPart")), true);
        for (String method : face) {
            C.due(method + " goes " + depth(method) + " deep, not above " + MOST, depth(method) <= MOST, true);
        }
    }

    private void note(String owner, String text) {
        String method = "";
        for (String line : text.split("\n")) {
            Matcher m = METHOD.matcher(line);
            if (m.matches() && !line.contains("//")) {
                method = owner + "." + (m.group(2).equals(owner) ? "<init>" : m.group(2));
                calls.computeIfAbsent(method, k -> new TreeSet<>());
                if (m.group(1) != null) {
                    face.add(method);
                }
            }
            m = CALL.matcher(line);
            if (m.matches()) {
                String to = m.group(1).replace("\"", "");
                to = to.contains(".") ? to : owner + "." + to;
                if (to.startsWith("RingDisk")) {
                    calls.get(method).add(to);
                }
            }
        }
    }

    private Set<String> reached(String from) {
        Set<String> all = new HashSet<>();
        Set<String> more = calls.getOrDefault(from, Set.of());
        while (!more.isEmpty()) {
            Set<String> next = new HashSet<>();
            for (String method : more) {
                if (all.add(method)) {
                    next.addAll(calls.getOrDefault(method, Set.of()));
                }
            }
            more = next;
        }
        return all;
    }

    /** Methods that call one another count as one. */
    private int depth(String method) {
        Integer known = deep.get(method);
        if (known != null) {
            return known;
        }
        Set<String> alike = new HashSet<>();
        alike.add(method);
        for (String to : reached(method)) {
            if (reached(to).contains(method)) {
                alike.add(to);
            }
        }
        int most = 0;
        for (String one : alike) {
            for (String to : calls.getOrDefault(one, Set.of())) {
                if (!alike.contains(to)) {
                    most = Math.max(most, depth(to));
                }
            }
        }
        deep.put(method, most + 1);
        return most + 1;
    }
}
