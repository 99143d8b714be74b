import java.io.IOException;
import java.io.PrintWriter;
import java.io.StringWriter;
import java.nio.file.Files;
import java.nio.file.Path;
import java.util.ArrayDeque;
import java.util.ArrayList;
import java.util.Deque;
import java.util.List;
import java.util.Map;
import java.util.Optional;
import java.util.Set;
import java.util.TreeMap;
import java.util.TreeSet;
import java.util.regex.Matcher;
import java.util.regex.Pattern;
import java.util.spi.ToolProvider;
import java.util.stream.Stream;

/**
 * Rules 8 and 11 of LANGUAGE.md, by what the compiled class calls: no recursion, and calls at most
 * eight deep, the call from outside being the first.
 */
public final class CallsTest extends Checks {
    private static final String FACE = "DictionaryTerms";
    private static final int MOST_DEEP = 8;
    private static final Pattern METHOD = Pattern.compile("^  \\S.*?([\\w$]+)\\(.*\\);$");
    private static final Pattern CALL = Pattern.compile("invoke\\w+ .*// Method (?:([\\w$/]+)\\.)?\"?(<?\\w+>?)\"?:");

    private final Map<String, Set<String>> calls = new TreeMap<>();
    private final Map<String, List<String>> longest = new TreeMap<>();
    private final Deque<String> open = new ArrayDeque<>();

    public static void main(String[] args) throws Exception {
        Optional<ToolProvider> javap = ToolProvider.findFirst("javap");
        if (javap.isEmpty()) {
            System.out.println("no javap: the calls within calls are not counted");
            return;
        }
        CallsTest test = new CallsTest();
        for (Path file : test.classFiles()) {
            test.read(file, javap.get());
        }
        test.dueDepth();
        finish();
    }

    private List<Path> classFiles() throws Exception {
        Path folder = Path.of(DictionaryTerms.class.getProtectionDomain().getCodeSource().getLocation().toURI());
        try (Stream<Path> files = Files.list(folder)) {
            return files.filter(file -> file.getFileName().toString().matches(FACE + "(\\$\\w+)?\\.class")).toList();
        }
    }

    private void read(Path file, ToolProvider javap) throws IOException {
        String inside = file.getFileName().toString().replace(".class", "");
        StringWriter text = new StringWriter();
        javap.run(new PrintWriter(text), new PrintWriter(System.err), "-p", "-c", file.toString());
        String method = "";
        for (String line : text.toString().split("\\R")) {
            Matcher head = METHOD.matcher(line);
            Matcher call = CALL.matcher(line);
            if (head.matches()) {
                method = inside + "." + head.group(1).replace(inside, "<init>");
                calls.put(method, new TreeSet<>());
            } else if (call.find()) {
                String of = call.group(1) == null ? inside : call.group(1).replace('/', '.');
                calls.get(method).add(of + "." + call.group(2));
            }
        }
    }

    private void dueDepth() {
        due("the class has its 19 methods of the face and more", calls.size() > 100 ? 1 : 0, 1);
        for (String method : List.copyOf(calls.keySet())) {
            List<String> chain = longestFrom(method);
            if (method.startsWith(FACE + ".")) {
                due(chain + ": at most " + MOST_DEEP, Math.max(MOST_DEEP, chain.size()), MOST_DEEP);
            }
        }
    }

    private List<String> longestFrom(String method) {
        if (longest.containsKey(method)) {
            return longest.get(method);
        }
        if (open.contains(method)) {
            fail(method + " calls itself by way of " + open);
            return List.of();
        }
        open.push(method);
        List<String> below = List.of();
        for (String called : calls.getOrDefault(method, Set.of())) {
            List<String> chain = longestFrom(called);
            below = chain.size() > below.size() ? chain : below;
        }
        open.pop();
        List<String> all = new ArrayList<>(List.of(method));
        all.addAll(below);
        longest.put(method, all);
        return all;
    }
}
