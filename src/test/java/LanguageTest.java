import java.io.IOException;
import java.nio.charset.StandardCharsets;
import java.nio.file.Files;
import java.nio.file.Paths;
import java.util.List;

/** What of ../shared/LANGUAGE.md can be seen in the lines of the program themselves. */
final class LanguageTest {
    private static final String[] RULED_OUT = {
        "->", "::", "catch", "finally", "synchronized", "assert ", "instanceof", "protected", "package "
    };

    private LanguageTest() {
    }

    static void run() {
        List<String> lines;
        try {
            lines = Files.readAllLines(Paths.get("src/main/java/RunDesk.java"), StandardCharsets.UTF_8);
        } catch (IOException e) {
            Check.due("reading the program: " + e, 1, 0);
            return;
        }
        for (String line : lines) {
            String code = line.trim();
            if (code.startsWith("*") || code.startsWith("/")) {
                continue;
            }
            look(code);
        }
    }

    private static void look(String code) {
        for (String word : RULED_OUT) {
            Check.no("'" + word + "' in: " + code, code.contains(word));
        }
        if (code.startsWith("import")) {
            Check.yes(code, code.equals("import java.util.Arrays;")
                || code.equals("import java.util.NoSuchElementException;"));
        }
        if (code.contains("throw new")) {
            Check.yes(code, code.startsWith("throw new NoSuchElementException(\""));
        } else if (code.contains("new ")) {
            // no call makes an object: a field's row, or a part of the desk in its constructor
            Check.yes("made by a call: " + code, code.startsWith("private final ")
                || code.matches("[a-z]+ = new [A-Z][a-z]+\\(\\);"));
        }
        for (int i = 0; i < code.length(); i++) {
            Check.yes("a sign of: " + code, code.charAt(i) >= ' ' && code.charAt(i) < 127);
        }
    }
}
