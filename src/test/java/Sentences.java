import java.io.IOException;
import java.nio.file.Files;
import java.nio.file.Path;
import java.util.ArrayList;
import java.util.LinkedHashMap;
import java.util.List;
import java.util.Map;
import java.util.regex.Matcher;
import java.util.regex.Pattern;

/**
 * Ties tests to the sentences of the document that they keep. A quote that the document does not
 * have, a sentence that does not hold and a sentence that no test quotes are each told and counted.
 */
final class Sentences {
    private static final Path DOCUMENT = Path.of("../shared/DOC.md");
    private static final Pattern FENCES = Pattern.compile("(?m)^```\\w*$");
    private static final Pattern SIGNATURE = Pattern.compile("^`[^`]*`: ");

    private final Map<String, String> texts = new LinkedHashMap<>();
    private final Map<String, boolean[]> quoted = new LinkedHashMap<>();
    private String section = "";
    private int tests = 0;
    /** The answers are tested without the document too; only the quotes can't be looked up then. */
    private final boolean readable = Files.isReadable(DOCUMENT);

    Sentences() throws IOException {
        if (!readable) {
            System.out.println("no " + DOCUMENT + ": the quotes are not looked up");
            return;
        }
        String[] parts = Files.readString(DOCUMENT).split("(?m)^## ");
        for (int n = 1; n < parts.length; n++) {
            String[] lines = parts[n].split("\n", 2);
            String name = lines[0].replaceAll("^(Promise \\d+):.*", "$1").trim();
            String text = FENCES.matcher(lines[1]).replaceAll(" ").replaceAll("\\s+", " ").trim();
            text = SIGNATURE.matcher(text).replaceFirst("");
            texts.put(name, text);
            quoted.put(name, new boolean[text.length()]);
        }
    }

    /** The section that the quotes after this are from: a heading, of the promises without the name. */
    void in(String name) {
        section = name;
    }

    void holds(String quote, Runnable test) {
        tests++;
        if (readable && !mark(quote)) {
            Checks.fail("not in the document's " + section + ": " + quote);
        }
        int before = Checks.wrongSoFar();
        try {
            test.run();
        } catch (RuntimeException thrown) {
            Checks.fail("thrown: " + thrown + " at " + thrown.getStackTrace()[0]);
        }
        if (Checks.wrongSoFar() != before) {
            System.out.println("   does not hold (" + section + "): " + quote);
        }
    }

    private boolean mark(String quote) {
        String text = texts.getOrDefault(section, "");
        boolean found = false;
        for (int at = text.indexOf(quote); at >= 0; at = text.indexOf(quote, at + 1)) {
            found = true;
            for (int i = at; i < at + quote.length(); i++) {
                quoted.get(section)[i] = true;
            }
        }
        return found;
    }

    /** Looks through the sections that say what the calls do. */
    void allAreQuoted() {
        for (String name : texts.keySet()) {
            if (name.equals("Terms") || name.startsWith("Promise ")) {
                for (String gap : gaps(name)) {
                    Checks.fail("no test quotes this of " + name + ": " + gap);
                }
            }
        }
        System.out.println(tests + " tests of sentences");
    }

    private List<String> gaps(String name) {
        StringBuilder left = new StringBuilder();
        for (int i = 0; i < texts.get(name).length(); i++) {
            left.append(quoted.get(name)[i] ? '\n' : texts.get(name).charAt(i));
        }
        List<String> gaps = new ArrayList<>();
        Matcher words = Pattern.compile("[^\n]*\\w[^\n]*").matcher(left);
        while (words.find()) {
            gaps.add(words.group().trim());
        }
        return gaps;
    }
}
