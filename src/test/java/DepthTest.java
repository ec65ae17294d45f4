import java.io.IOException;
import java.io.PrintWriter;
import java.io.StringWriter;
import java.net.URISyntaxException;
import java.nio.file.Files;
import java.nio.file.Path;
import java.util.ArrayList;
import java.util.HashMap;
import java.util.List;
import java.util.Map;
import java.util.Set;
import java.util.TreeMap;
import java.util.TreeSet;
import java.util.regex.Matcher;
import java.util.regex.Pattern;
import java.util.spi.ToolProvider;

/** Rules 4, 8 and 11 of ../shared/LANGUAGE.md, as far as the compiled class shows them: who calls whom. */
public final class DepthTest {
    private static final Check CHECK = new Check();
    private static final int DEEPEST = 8;
    private static final Set<String> RECURSIVE = Set.of("HedgePark$Reader.readTruth", "HedgePark$Reader.readBoth",
            "HedgePark$Reader.readUnit", "HedgePark$Reader.readSum", "HedgePark$Reader.readTerm", "HedgePark$Reader.readAtom");
    private static final Set<String> LIBRARY = Set.of("java/util/Arrays.fill", "java/lang/System.arraycopy",
            "java/lang/Long.bitCount", "java/lang/Math.min", "java/lang/Math.max", "java/lang/Math.floorMod",
            "java/lang/String.length", "java/lang/String.charAt", "java/lang/String.indexOf", "java/lang/Object.new",
            "java/util/NoSuchElementException.new", "java/lang/IllegalStateException.new",
            "java/lang/IllegalArgumentException.new", "java/lang/IndexOutOfBoundsException.new");
    private static final Pattern CLASS = Pattern.compile("^\\S.*class (HedgePark\\S*) .*\\{$");
    private static final Pattern HEAD = Pattern.compile("^  (?:\\S.* )?([\\w$]+)\\([^)]*\\).*;$");
    private static final Pattern CALL = Pattern.compile("// (?:Interface)?Method ([^:]*):");

    private static final Map<String, Set<String>> CALLED = new TreeMap<>();
    private static final Map<String, Integer> DEPTH = new HashMap<>();

    private static String disassembled() throws IOException, URISyntaxException {
        List<String> arguments = new ArrayList<>(List.of("-c", "-p"));
        Path folder = Path.of(HedgePark.class.getProtectionDomain().getCodeSource().getLocation().toURI());
        try (var files = Files.list(folder)) {
            for (Path file : files.toList()) {
                if (file.getFileName().toString().matches("HedgePark(\\$\\w+)?\\.class")) {
                    arguments.add(file.toString());
                }
            }
        }
        StringWriter text = new StringWriter();
        PrintWriter out = new PrintWriter(text);
        ToolProvider.findFirst("javap").orElseThrow().run(out, out, arguments.toArray(new String[0]));
        return text.toString();
    }

    private static void readCalls(String text) {
        String owner = "";
        String method = "";
        for (String line : text.split("\n")) {
            Matcher named = CLASS.matcher(line);
            Matcher head = HEAD.matcher(line);
            Matcher call = CALL.matcher(line);
            if (named.matches()) {
                owner = named.group(1);
            } else if (head.matches()) {
                method = owner + "." + (owner.equals(head.group(1)) ? "new" : head.group(1));
                CALLED.put(method, new TreeSet<>());
            } else if (line.contains("invoke") && call.find()) {
                String name = call.group(1).replace("\"<init>\"", "new");
                CALLED.get(method).add(name.contains(".") ? name : owner + "." + name);
            }
        }
    }

    private static Set<String> allCalledBy(String method) {
        Set<String> all = new TreeSet<>();
        List<String> open = new ArrayList<>(CALLED.getOrDefault(method, Set.of()));
        while (!open.isEmpty()) {
            String next = open.remove(open.size() - 1);
            if (all.add(next)) {
                open.addAll(CALLED.getOrDefault(next, Set.of()));
            }
        }
        return all;
    }

    /** How many calls that are no recursion stand open at most, the method's own among them. */
    private static int depthOf(String method) {
        if (RECURSIVE.contains(method)) {
            return deepestOf(RECURSIVE);
        }
        Integer known = DEPTH.get(method);
        int depth = known != null ? known : 1 + deepestOf(Set.of(method));
        DEPTH.put(method, depth);
        return depth;
    }

    private static int deepestOf(Set<String> callers) {
        int deepest = 0;
        for (String caller : callers) {
            for (String called : CALLED.getOrDefault(caller, Set.of())) {
                if (!callers.contains(called)) {
                    deepest = Math.max(deepest, depthOf(called));
                }
            }
        }
        return deepest;
    }

    public static void main(String[] args) throws IOException, URISyntaxException {
        readCalls(disassembled());
        CHECK.due("methods are seen", CALLED.size() > 100 ? 1 : 0, 1);
        Set<String> recursive = new TreeSet<>();
        Set<String> library = new TreeSet<>();
        for (Map.Entry<String, Set<String>> entry : CALLED.entrySet()) {
            if (allCalledBy(entry.getKey()).contains(entry.getKey())) {
                recursive.add(entry.getKey());
            }
            for (String called : entry.getValue()) {
                if (!CALLED.containsKey(called)) {
                    library.add(called);
                }
            }
        }
        CHECK.due("what calls itself", recursive.toString(), new TreeSet<>(RECURSIVE).toString());
        library.removeAll(LIBRARY);
        CHECK.due("called of the library, beside what the rules list", library.toString(), "[]");
        if (recursive.equals(RECURSIVE)) {
            for (String method : CALLED.keySet()) {
                CHECK.due(method + " goes eight deep at most", depthOf(method) <= DEEPEST ? 1 : 0, 1);
            }
        }
        CHECK.end("DepthTest");
    }
}
