import java.io.IOException;
import java.lang.reflect.Method;
import java.nio.charset.StandardCharsets;
import java.nio.file.Files;
import java.nio.file.Paths;
import java.util.List;
import java.util.regex.Matcher;
import java.util.regex.Pattern;

/** README.md's example answers as it says there, and its table names every call of the face. */
final class ReadmeTest {
    private static final Pattern CALL = Pattern.compile("desk\\.(\\w+)\\((.*?)\\); *// (true|false|-?\\d+)(:.*)?");
    private static final int LEAST_CALLS = 20;

    private ReadmeTest() {
    }

    static void run() {
        List<String> lines;
        try {
            lines = Files.readAllLines(Paths.get("README.md"), StandardCharsets.UTF_8);
        } catch (IOException e) {
            Check.due("reading README.md: " + e, 1, 0);
            return;
        }
        example(lines);
        for (Method method : RunDesk.class.getMethods()) {
            if (method.getDeclaringClass() == RunDesk.class) {
                Check.yes("README.md's table names " + method.getName(), isInTable(lines, method));
            }
        }
    }

    private static void example(List<String> lines) {
        RunDesk desk = new RunDesk();
        int calls = 0;
        for (String line : lines) {
            if (line.startsWith("desk.")) {
                Matcher call = CALL.matcher(line);
                Check.yes("a call and its answer: " + line, call.matches());
                if (call.matches()) {
                    String got = answer(desk, call);
                    Check.yes("README.md: " + line + ", answered " + got, got.equals(call.group(3)));
                    calls++;
                }
            }
        }
        Check.yes("README.md's example has calls", calls >= LEAST_CALLS);
    }

    private static String answer(RunDesk desk, Matcher call) {
        String[] words = call.group(2).isEmpty() ? new String[0] : call.group(2).split(", ");
        for (Method method : RunDesk.class.getMethods()) {
            if (method.getName().equals(call.group(1)) && method.getParameterCount() == words.length) {
                try {
                    return String.valueOf(method.invoke(desk, arguments(method, words)));
                } catch (ReflectiveOperationException e) {
                    return "throws " + e.getCause();
                }
            }
        }
        return "no such call";
    }

    private static Object[] arguments(Method method, String[] words) {
        Object[] all = new Object[words.length];
        for (int i = 0; i < words.length; i++) {
            boolean isYesOrNo = method.getParameterTypes()[i] == boolean.class;
            all[i] = isYesOrNo ? (Object) Boolean.valueOf(words[i]) : (Object) Integer.decode(words[i]);
        }
        return all;
    }

    private static boolean isInTable(List<String> lines, Method method) {
        for (String line : lines) {
            int start = line.indexOf("`" + method.getName() + "(");
            if (line.startsWith("|") && start >= 0) {
                String words = line.substring(line.indexOf('(', start) + 1, line.indexOf(')', start));
                int many = words.isEmpty() ? 0 : words.split(", ").length;
                return many == method.getParameterCount();
            }
        }
        return false;
    }
}
