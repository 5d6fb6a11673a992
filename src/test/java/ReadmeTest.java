import java.lang.reflect.Method;
import java.nio.file.Files;
import java.nio.file.Path;
import java.util.TreeSet;
import java.util.regex.Matcher;
import java.util.regex.Pattern;

/** Makes the calls that README.md shows, and compares what it says that they answer. */
public final class ReadmeTest {
    private static final Pattern CALL = Pattern.compile("court\\.(\\w+)\\((.*?)\\);\\s+// (\\S+)\\s*(.*)");

    private static final TreeSet<String> SHOWN = new TreeSet<>();

    private ReadmeTest() {
    }

    public static void main(String[] args) throws Exception {
        String readme = Files.readString(Path.of("README.md"));
        calls(readme);
        for (Method method : OnionCourt.class.getDeclaredMethods()) {
            boolean isOpen = (method.getModifiers() & java.lang.reflect.Modifier.PUBLIC) != 0;
            Checks.due("README.md shows " + method.getName(), isOpen, SHOWN.contains(method.getName()));
        }
        for (String reader : "law question onion transcript seen skins check".split(" ")) {
            Checks.due("README.md names " + reader + " as a reader", true, readme.contains("| `" + reader + "("));
        }
        Checks.due("the one command", true, readme.contains("\n    .ci/run\n"));
        tests(readme);
        Checks.end("ReadmeTest");
    }

    private static void calls(String readme) throws Exception {
        OnionCourt court = null;
        for (String line : readme.split("\n")) {
            if (line.equals("OnionCourt court = new OnionCourt();")) {
                court = new OnionCourt();
            } else if (line.startsWith("court.")) {
                Matcher call = CALL.matcher(line);
                boolean isCall = call.matches();
                Checks.due("can be read: " + line, true, isCall && court != null);
                if (isCall && court != null) {
                    call(court, line, call);
                }
            }
        }
    }

    private static void call(OnionCourt court, String line, Matcher call) throws Exception {
        SHOWN.add(call.group(1));
        String[] words = call.group(2).isEmpty() ? new String[0] : call.group(2).split(", ");
        for (Method method : OnionCourt.class.getDeclaredMethods()) {
            if (method.getName().equals(call.group(1))) {
                Class<?>[] types = method.getParameterTypes();
                Object[] arguments = new Object[types.length];
                Checks.due("as many arguments: " + line, types.length, words.length);
                for (int i = 0; i < types.length && i < words.length; i++) {
                    arguments[i] = types[i] == boolean.class ? (Object) Boolean.valueOf(words[i]) : (Object) number(words[i]);
                }
                String answer = String.valueOf(method.invoke(court, arguments));
                Checks.due(line + " answered " + answer, true, answer.equals(call.group(3)));
                fed(line, arguments, call.group(4));
            }
        }
    }

    private static int number(String word) {
        return (int) (long) Long.decode(word);
    }

    /** Where a text in quotes stands beside what is fed, the bytes are that text, and 0 behind it. */
    private static void fed(String line, Object[] words, String beside) {
        if (!beside.startsWith("\"")) {
            return;
        }
        String text = beside.substring(1, beside.indexOf('"', 1));
        StringBuilder bytes = new StringBuilder();
        for (Object word : words) {
            for (int shift = 24; shift >= 0; shift -= 8) {
                bytes.append((char) ((int) word >> shift & 255));
            }
        }
        Checks.due("fed is the text: " + line, true, bytes.toString().equals(text + "\0".repeat(bytes.length() - text.length())));
    }

    private static void tests(String readme) throws Exception {
        try (var files = Files.list(Path.of("src/test/java"))) {
            for (Path file : files.toList()) {
                String name = file.getFileName().toString().replace(".java", "");
                Checks.due("README.md names " + name, name.endsWith("Test"), readme.contains("| `" + name + "` |"));
            }
        }
    }
}
