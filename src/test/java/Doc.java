import java.io.IOException;
import java.nio.charset.StandardCharsets;
import java.nio.file.Files;
import java.nio.file.Paths;
import java.util.LinkedHashMap;
import java.util.Map;
import java.util.TreeSet;

/**
 * The document's own words. Each boundary test names the ones that it tests, so that a sentence can
 * be found from its test, and a heading without a test is seen.
 */
final class Doc {
    static final String USE = "use";
    static final String REFUSED = "refused";
    static final String CONSTANTS = "constants";
    private static final int PROMISES = 32;
    private static final int TERMS = 4;

    private static final Map<String, String> SECTIONS = new LinkedHashMap<>();
    private static final TreeSet<String> NAMED = new TreeSet<>();

    private Doc() {
    }

    static void says(int promise, String words) {
        says("Promise " + promise, words);
    }

    static void terms(int number, String words) {
        says("Terms " + number, words);
    }

    static void says(String section, String words) {
        read();
        Check.yes(section + " says '" + words + "'", SECTIONS.getOrDefault(section, "").contains(words));
        NAMED.add(section);
    }

    /** To be called behind all tests: whether each part of the document was named by one. */
    static void allAreNamed() {
        read();
        for (String section : SECTIONS.keySet()) {
            Check.yes("a test names words of " + section, NAMED.contains(section));
        }
        Check.due("parts of the document", SECTIONS.size(), PROMISES + TERMS + 3);
    }

    private static void read() {
        if (!SECTIONS.isEmpty()) {
            return;
        }
        String all;
        try {
            all = new String(Files.readAllBytes(Paths.get("../shared/DOC.md")), StandardCharsets.UTF_8);
        } catch (IOException e) {
            Check.due("reading the document: " + e, 1, 0);
            return;
        }
        SECTIONS.put(USE, between(all, "## What it is", "## The public face"));
        for (int i = 1; i <= TERMS; i++) {
            String next = i < TERMS ? "==== " + (i + 1) + "." : "What is refused";
            SECTIONS.put("Terms " + i, between(all, "==== " + i + ".", next));
        }
        SECTIONS.put(REFUSED, between(all, "What is refused", "The constants:"));
        SECTIONS.put(CONSTANTS, between(all, "The constants:", "## Promise 1:"));
        for (int i = 1; i <= PROMISES; i++) {
            String next = i < PROMISES ? "## Promise " + (i + 1) + ":" : "## Not promised";
            SECTIONS.put("Promise " + i, between(all, "## Promise " + i + ":", next));
        }
    }

    private static String between(String all, String from, String to) {
        int start = all.indexOf(from);
        int end = all.indexOf(to);
        return start >= 0 && end > start ? all.substring(start, end) : "";
    }
}
