import java.io.PrintWriter;
import java.io.StringWriter;
import java.nio.file.Path;
import java.util.ArrayList;
import java.util.HashMap;
import java.util.List;
import java.util.Map;
import java.util.TreeMap;
import java.util.TreeSet;
import java.util.regex.Matcher;
import java.util.regex.Pattern;
import java.util.spi.ToolProvider;

/** Rules 8 and 11 of LANGUAGE.md: no method calls itself, and calls go at most eight deep, the library's too. */
public final class DepthTest {
    private static final Check CHECK = new Check("DepthTest");
    private static final int DEEPEST = 8;
    private static final Pattern CLASS = Pattern.compile(".*\\bclass (VectorDeal[\\w$]*) \\{");
    private static final Pattern METHOD = Pattern.compile("  (?=\\S)(?:.* )?([\\w$]+)\\([^()]*\\);");
    private static final Pattern INVOKED = Pattern.compile(".*: invoke\\w+ .*// (?:Interface)?Method (?:([\\w$/]+)\\.)?\"?([\\w<>$]+)\"?:.*");

    /** By class and name, what each method calls. */
    private static final Map<String, TreeSet<String>> CALLS = new TreeMap<>();
    private static final Map<String, Integer> DEPTHS = new HashMap<>();

    public static void main(String[] args) throws Exception {
        if (ToolProvider.findFirst("javap").isEmpty()) {
            // .ci/run may count on javac and java alone.
            System.out.println("DepthTest: there is no javap here, so how deep calls go was NOT counted");
            return;
        }
        List<String> names = new ArrayList<>();
        names.add("VectorDeal");
        for (Class<?> inside : VectorDeal.class.getDeclaredClasses()) {
            names.add(inside.getName());
        }
        for (String name : names) {
            read(disassembled(name));
        }
        CHECK.due("classes were read", CALLS.size() > names.size(), true);
        for (String method : CALLS.keySet()) {
            int depth = depthOf(method, 0);
            CHECK.due(method + " goes " + depth + " deep", depth <= DEEPEST, true);
        }
        CHECK.finish();
    }

    private static String disassembled(String name) throws Exception {
        Path classes = Path.of(VectorDeal.class.getProtectionDomain().getCodeSource().getLocation().toURI());
        StringWriter text = new StringWriter();
        PrintWriter out = new PrintWriter(text);
        ToolProvider javap = ToolProvider.findFirst("javap").orElseThrow();
        CHECK.due("javap " + name, javap.run(out, out, "-c", "-p", "-cp", classes.toString(), name), 0);
        return text.toString();
    }

    private static void read(String text) {
        String owner = "";
        String method = "";
        for (String row : text.split("\n")) {
            Matcher head = CLASS.matcher(row);
            Matcher declared = METHOD.matcher(row);
            Matcher invoked = INVOKED.matcher(row);
            if (head.matches()) {
                owner = head.group(1);
            } else if (declared.matches()) {
                String name = declared.group(1);
                method = owner + "." + (name.equals(owner) ? "<init>" : name);
                CALLS.putIfAbsent(method, new TreeSet<>());
            } else if (invoked.matches()) {
                CALLS.get(method).add((invoked.group(1) == null ? owner : invoked.group(1)) + "." + invoked.group(2));
            }
        }
    }

    /** A method of the library is one level; one that calls itself comes out deeper than any may. */
    private static int depthOf(String method, int above) {
        if (above > 2 * DEEPEST || DEPTHS.containsKey(method)) {
            return DEPTHS.getOrDefault(method, 1);
        }
        int deepest = 0;
        for (String called : CALLS.getOrDefault(method, new TreeSet<>())) {
            deepest = Math.max(deepest, depthOf(called, above + 1));
        }
        if (above == 0) {
            DEPTHS.put(method, deepest + 1);
        }
        return deepest + 1;
    }
}
