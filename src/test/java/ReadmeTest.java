import java.io.IOException;
import java.lang.reflect.Array;
import java.lang.reflect.Field;
import java.lang.reflect.Method;
import java.lang.reflect.Modifier;
import java.nio.file.Files;
import java.nio.file.Path;
import java.util.ArrayList;
import java.util.Collections;
import java.util.IdentityHashMap;
import java.util.List;
import java.util.Set;
import java.util.regex.Matcher;
import java.util.regex.Pattern;
import java.util.stream.Stream;

/** README.md holds: its examples, what it says of the room an object takes, and its lists of names. */
public final class ReadmeTest extends Checks {
    private static final Path README = Path.of("README.md"), TESTS = Path.of("src/test/java");

    public static void main(String[] args) throws IOException, IllegalAccessException {
        String readme = Files.readString(README);
        examples();
        examplesAreThoseOf(readme);
        room(readme);
        names(readme);
        paths(readme);
        finish();
    }

    /** The lines between the marks are those of README.md's examples, in their order. */
    private static void examples() {
        // README
        DictionaryTerms x = new DictionaryTerms();
        int unit = x.constructor(0);
        int list = x.constructor(1);
        int units = x.type(list, x.type(unit, 0, 0), 0);        // the TYPE: a list of units

        int size = x.cls(1);
        int ofUnit = x.instance(size, unit);
        int ofList = x.instance(size, list);
        x.context(ofList, size, 0);                             // what is in the list has a size too

        x.body(ofUnit, 0, x.node(0, 20, 0, 0));                 // the NUMBER 20
        int one = x.node(0, 1, 0, 0);
        int inside = x.node(2, 0, 0, 0);                        // OF CONTEXT 0 the MEMBER 0
        x.body(ofList, 0, x.node(5, one, inside, 0));           // one PLUS inside

        int d = x.dictionary(size, units);
        long v = x.value(d, 0);                                 // 21
        int steps = x.count(6);                                 // 2: at the unit, then at the list
        // END
        int part = x.part(d, 0);
        due("the VALUE at the list of units", v, 21);
        due("its STEPS", steps, 2);
        due("the first of them", x.step(0, 0), part);
        due("the second of them", x.step(1, 0), d);
        // README
        int both = x.type(x.constructor(2), units, units);
        int refused = x.dictionary(size, both);                 // LACKS: no INSTANCE for that CONSTRUCTOR
        int lackedClass = x.lack(0);                            // size
        int lackedType = x.lack(1);                             // both

        x.body(ofUnit, 0, DictionaryTerms.NONE);
        int gone = x.about(d, 0);                               // BAD: body() took all DICTIONARIES away
        int again = x.dictionary(size, units);
        long none = x.value(again, 0);                          // 0
        int fault = x.failed(0);                                // 1: MISSING ..
        int where = x.failed(1);                                // .. at PART 0 of the list's DICTIONARY ..
        int member = x.failed(2);                               // .. of its MEMBER 0
        // END
        due("the DICTIONARY at a pair", refused, LACKS);
        due("the CLASS that lacks an INSTANCE", lackedClass, size);
        due("the TYPE that lacks it", lackedType, both);
        due("the DICTIONARY that was taken away", gone, BAD);
        due("the VALUE without a BODY", none, 0);
        due("its FAULT", fault, MISSING);
        due("the DICTIONARY of the FAULT", where, x.part(again, 0));
        due("the MEMBER of the FAULT", member, 0);
    }

    private static void examplesAreThoseOf(String readme) throws IOException {
        String own = Files.readString(TESTS.resolve("ReadmeTest.java"));
        List<String> written = blocks(readme, "(?sm)^```java\n(.*?)^```$");
        List<String> run = blocks(own, "(?sm)^ +// README\n(.*?)^ +// END$");
        if (written.isEmpty() || !written.equals(run)) {
            fail("the examples of README.md are not those that are run:\n" + written + "\n" + run);
        }
    }

    private static List<String> blocks(String text, String form) {
        List<String> found = new ArrayList<>();
        Matcher block = Pattern.compile(form).matcher(text);
        while (block.find()) {
            found.add(block.group(1).stripTrailing().stripIndent());
        }
        return found;
    }

    /** "some" is taken as: not a tenth more or less. */
    private static void room(String readme) throws IllegalAccessException {
        String form = "some ([\\d,]+) elements and fields\\s+in some (\\d+) objects and arrays";
        Matcher said = Pattern.compile(form).matcher(readme);
        if (!said.find()) {
            fail("README.md does not say what room an object takes");
            return;
        }
        Set<Object> things = Collections.newSetFromMap(new IdentityHashMap<>());
        double cells = cellsOf(new DictionaryTerms(), things);
        double saidCells = Integer.parseInt(said.group(1).replace(",", ""));
        double saidThings = Integer.parseInt(said.group(2));
        due("elements and fields, " + cells + ": near", Math.abs(cells / saidCells - 1) < 0.1 ? 1 : 0, 1);
        due("objects and arrays, " + things.size() + ": near",
            Math.abs(things.size() / saidThings - 1) < 0.1 ? 1 : 0, 1);
    }

    private static int cellsOf(Object thing, Set<Object> things) throws IllegalAccessException {
        if (thing == null || !things.add(thing)) {
            return 0;
        }
        if (thing.getClass().isArray()) {
            return Array.getLength(thing);
        }
        int cells = 0;
        for (Field field : thing.getClass().getDeclaredFields()) {
            if (!Modifier.isStatic(field.getModifiers())) {
                field.setAccessible(true);
                cells += 1 + (field.getType().isPrimitive() ? 0 : cellsOf(field.get(thing), things));
            }
        }
        return cells;
    }

    private static void names(String readme) throws IOException {
        for (Method call : DictionaryTerms.class.getDeclaredMethods()) {
            if (Modifier.isPublic(call.getModifiers()) && !inTable(readme, call)) {
                fail("README.md has no row with its arguments for " + call.getName());
            }
        }
        for (Class<?> inside : DictionaryTerms.class.getDeclaredClasses()) {
            mustName(readme, inside.getSimpleName());
        }
        for (String constant : List.of("NONE", "BAD", "FULL", "LACKS")) {
            mustName(readme, constant);
        }
        try (Stream<Path> files = Files.list(TESTS)) {
            for (Path file : files.toList()) {
                mustName(readme, file.getFileName().toString().replace(".java", ""));
            }
        }
    }

    private static boolean inTable(String readme, Method call) {
        Matcher row = Pattern.compile("(?m)^\\| `" + call.getName() + "\\(([^)]*)\\)` \\|").matcher(readme);
        return row.find() && row.group(1).split(", ").length == call.getParameterCount() && !row.find();
    }

    private static void mustName(String readme, String name) {
        if (!readme.contains("`" + name + "`")) {
            fail("README.md does not name " + name);
        }
    }

    /** What README.md tells the reader to open or to run is there. */
    private static void paths(String readme) {
        Matcher path = Pattern.compile("(?<![\\w./])(src/[\\w/]+(\\.java)?|\\.ci/\\w+)").matcher(readme);
        while (path.find()) {
            if (!Files.exists(Path.of(path.group()))) {
                fail("README.md names " + path.group() + ", which is not there");
            }
        }
        due(".ci/run can be run", Files.isExecutable(Path.of(".ci/run")) ? 1 : 0, 1);
    }
}
