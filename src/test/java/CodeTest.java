import java.io.PrintWriter;
import java.io.StringWriter;
import java.nio.file.Files;
import java.nio.file.Path;
import java.util.ArrayList;
import java.util.List;
import java.util.Map;
import java.util.TreeMap;
import java.util.TreeSet;
import java.util.regex.Matcher;
import java.util.regex.Pattern;
import java.util.spi.ToolProvider;

/**
 * What LANGUAGE.md asks, seen in the class as it is compiled: only the library that rule 4 lists, exceptions by rule 6,
 * no recursion and calls at most eight deep (8, 11), objects made by constructors alone (12, and the room of a run).
 */
public final class CodeTest {
    private static final Pattern METHOD = Pattern.compile("  (?! )(?:.* )?([\\w$]+)\\(.*\\).*;");
    private static final Pattern CALL = Pattern.compile("invoke\\w+ .*// (?:Interface)?Method (?:([\\w$/]+)\\.)?\"?([\\w<>]+)\"?:");
    private static final Pattern MADE = Pattern.compile(": (new|newarray|anewarray|multianewarray) .*?(\\S+)$");
    private static final String[] LIBRARY = {"java/lang/Object.<init>", "java/lang/String.length", "java/lang/String.charAt",
        "java/lang/Math.abs", "java/lang/Math.min", "java/lang/Math.max", "java/lang/Math.floorDiv", "java/lang/Math.floorMod",
        "java/lang/Long.compare", "java/lang/IndexOutOfBoundsException.<init>", "java/util/NoSuchElementException.<init>"};
    private static final int DEEPEST = 8;

    private static final Map<String, TreeSet<String>> calls = new TreeMap<>();
    private static final Map<String, Integer> depths = new TreeMap<>();
    private static int asked = 0;
    private static int wrong = 0;

    public static void main(String[] args) throws Exception {
        for (Path file : classFiles()) {
            readCode(told(file));
        }
        holds("the class was found", calls.containsKey("SlopeChecker.count"));
        library();
        for (String method : calls.keySet()) {
            int depth = depth(method, new ArrayList<>());
            holds(method + " goes " + depth + " deep", depth <= DEEPEST);
        }
        System.out.println(calls.size() + " methods, " + asked + " asked, " + wrong + " wrong");
        if (wrong != 0) {
            System.exit(1);
        }
    }

    private static void holds(String what, boolean b) {
        asked++;
        if (!b) {
            wrong++;
            System.out.println("it does not hold: " + what);
        }
    }

    private static List<Path> classFiles() throws Exception {
        List<Path> found = new ArrayList<>();
        Path folder = Path.of(SlopeChecker.class.getProtectionDomain().getCodeSource().getLocation().toURI());
        try (var files = Files.newDirectoryStream(folder, "SlopeChecker*.class")) {
            for (Path file : files) {
                found.add(file);
            }
        }
        return found;
    }

    private static String told(Path file) {
        StringWriter out = new StringWriter();
        ToolProvider.findFirst("javap").orElseThrow().run(new PrintWriter(out), new PrintWriter(out), "-c", "-p", file.toString());
        return out.toString();
    }

    private static void readCode(String code) {
        Matcher head = Pattern.compile("class ([\\w$]+)").matcher(code);
        String owner = head.find() ? head.group(1) : "";
        String method = "";
        for (String line : code.split("\n")) {
            Matcher begin = METHOD.matcher(line);
            Matcher call = CALL.matcher(line);
            Matcher made = MADE.matcher(line);
            if (begin.matches()) {
                boolean constructor = begin.group(1).equals(owner);
                method = owner + "." + (constructor ? "<init>" : begin.group(1));
                calls.putIfAbsent(method, new TreeSet<>());
            } else if (call.find()) {
                String of = call.group(1) == null ? owner : call.group(1);
                calls.get(method).add(of + "." + call.group(2));
            } else if (made.find()) {
                boolean thrown = method.equals("SlopeChecker.mode") && made.group(2).endsWith("Exception");
                holds(method + " makes nothing new: " + made.group(2), thrown || method.endsWith("<init>"));
            }
            holds("no catch in " + method, !line.contains("Exception table"));
            holds("nothing made at run time in " + method, !line.contains("invokedynamic"));
            holds("no lock in " + method, !line.contains("monitorenter"));
            boolean throwing = line.matches(".*: athrow.*");
            holds("only mode() throws, not " + method, !throwing || method.equals("SlopeChecker.mode"));
        }
    }

    private static void library() {
        List<String> listed = List.of(LIBRARY);
        for (Map.Entry<String, TreeSet<String>> entry : calls.entrySet()) {
            for (String called : entry.getValue()) {
                boolean own = calls.containsKey(called);
                holds(entry.getKey() + " may call " + called, own || listed.contains(called));
            }
        }
    }

    /** How many methods stand open at once, this one and the library's among them. */
    private static int depth(String method, List<String> open) {
        if (open.contains(method)) {
            holds("no recursion: " + open + " " + method, false);
            return 0;
        }
        Integer known = depths.get(method);
        if (known != null) {
            return known;
        }
        open.add(method);
        int deepest = 0;
        for (String called : calls.getOrDefault(method, new TreeSet<>())) {
            deepest = Math.max(deepest, depth(called, open));
        }
        open.remove(open.size() - 1);
        depths.put(method, deepest + 1);
        return deepest + 1;
    }
}
