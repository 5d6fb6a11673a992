import java.lang.reflect.Field;
import java.lang.reflect.Method;
import java.lang.reflect.Modifier;
import java.nio.file.Files;
import java.nio.file.Path;
import java.util.Arrays;
import java.util.List;
import java.util.TreeSet;
import java.util.regex.Matcher;
import java.util.regex.Pattern;

/** The public face, and those rules of LANGUAGE.md that can be seen from the class and its text. */
public final class FaceTest {
    private static final List<String> FACE = List.of("boolean prior(int,int)", "boolean witness(int,int)",
        "int feed(int,int,int,int,int)", "int law(int)", "int question(int,int)", "int onion(int,int)", "int transcript(int)",
        "int answers(int,int,boolean,boolean)", "int strike()", "int weeks(int)", "int tried(int,int)", "int witnessIs(int,int)",
        "int answerIs(int,int)", "long likely(int,int,int)", "long lie(int,int,int)", "int world(int,int)", "int askNext(int)",
        "long ifTrue(int)", "int liars(int)", "int against()", "int follows(int,int)", "int agree(int,int,int)", "int tears(int)",
        "int seen(int,int,int)", "int skins(int,int,int)", "int onionsFor(int,int)", "int peeled(int,int)", "boolean seed(int)",
        "int keep()", "boolean undo()", "int check(int,int)", "int count(int)");

    /** The head of a method or constructor: indent, words ahead of the name, name. */
    private static final Pattern HEADER =
        Pattern.compile("( {4}(?: {4})?)(?! |for |if |switch |while )([\\w\\[\\] ]*?)(\\w+)\\(.*\\) \\{");

    private FaceTest() {
    }

    public static void main(String[] args) throws Exception {
        face();
        classesInside();
        String text = Files.readString(Path.of("src/main/java/OnionCourt.java"));
        signs(text);
        words(text);
        methods(text);
        Checks.end("FaceTest");
    }

    private static void due(String what, boolean want, boolean got) {
        Checks.due(what, want, got);
    }

    private static void face() {
        Class<?> c = OnionCourt.class;
        due("public and final", true, Modifier.isPublic(c.getModifiers()) && Modifier.isFinal(c.getModifiers()));
        due("one constructor", true, c.getDeclaredConstructors().length == 1 && c.getConstructors().length == 1);
        TreeSet<String> open = new TreeSet<>();
        for (Method m : c.getDeclaredMethods()) {
            if (!Modifier.isPrivate(m.getModifiers())) {
                String types = String.join(",", Arrays.stream(m.getParameterTypes()).map(Class::getName).toList());
                open.add(m.getReturnType() + " " + m.getName() + "(" + types + ")");
                due(m.getName() + " is public and no more", true, m.getModifiers() == Modifier.PUBLIC);
            }
        }
        due("the face: " + open, true, open.equals(new TreeSet<>(FACE)));
        for (Field f : c.getDeclaredFields()) {
            due(f + " is private", !f.getName().equals("NONE"), Modifier.isPrivate(f.getModifiers()));
            due(f + " is constant if static", true, !Modifier.isStatic(f.getModifiers()) || Modifier.isFinal(f.getModifiers()));
        }
    }

    private static void classesInside() {
        TreeSet<String> names = new TreeSet<>();
        FACE.forEach(method -> names.add(method.replaceAll(".* (\\w+)\\(.*", "$1")));
        Class<?>[] inside = OnionCourt.class.getDeclaredClasses();
        due("some twelve classes", true, inside.length <= 12);
        for (Class<?> c : inside) {
            due(c + " is private and static", true, Modifier.isPrivate(c.getModifiers()) && Modifier.isStatic(c.getModifiers()));
            due(c + " has no class inside", true, c.getDeclaredClasses().length == 0);
            fewFields(c);
            for (Method m : c.getDeclaredMethods()) {
                due(m + " has a name of its own", false, names.contains(m.getName()));
                due(m + " is no method of Object", false, List.of("equals", "hashCode", "toString").contains(m.getName()));
                due(m + " has seven parameters at most", true, m.getParameterCount() <= 7);
            }
        }
        fewFields(OnionCourt.class);
        for (Method m : OnionCourt.class.getDeclaredMethods()) {
            due(m + " has a name of its own", false, Modifier.isPrivate(m.getModifiers()) && names.contains(m.getName()));
        }
    }

    private static void fewFields(Class<?> c) {
        long fields = Arrays.stream(c.getDeclaredFields()).filter(f -> !Modifier.isStatic(f.getModifiers())).count();
        due(c + " has some twenty fields", true, fields <= 20);
    }

    private static void signs(String text) {
        due("plain signs", true, text.chars().allMatch(sign -> sign == '\n' || sign >= 32 && sign < 127));
        due("short lines", true, text.lines().allMatch(line -> line.length() <= 130));
    }

    private static void words(String text) {
        String code = text.replaceAll("(?s)/\\*.*?\\*/", "").replaceAll("//.*", "").replaceAll("'.'", "' '");
        for (String word : List.of("throw", "throws", "try", "catch", "finally", "synchronized", "assert", "import", "package", "enum",
            "record", "Object", "System", "Long", "Arrays", "List", "Thread", "Random", "String", "protected", "instanceof")) {
            due("no " + word, false, Pattern.compile("\\b" + word + "\\b").matcher(code).find());
        }
        due("no lambda", false, code.contains("->"));
        due("no method reference", false, code.contains("::"));
        due("no text", false, code.contains("\""));
        Matcher made = Pattern.compile("\\bnew \\w+").matcher(code);
        int makes = 0;
        while (made.find()) {
            makes++;
        }
        due("made by constructors and initialisers alone", true, makes == madeInConstructors(code));
    }

    private static int madeInConstructors(String code) {
        int makes = 0;
        boolean isConstructor = false;
        for (String line : code.split("\n")) {
            isConstructor = line.matches("\\s+(public |private )?[A-Z]\\w*\\(\\) \\{") || isConstructor && !line.matches(" {4}(?: {4})?}");
            if (line.contains("new ") && (isConstructor || line.contains("private final"))) {
                makes++;
            }
        }
        return makes;
    }

    private static void methods(String text) {
        String[] lines = text.split("\n");
        int headers = 0;
        for (int from = 0; from < lines.length; from++) {
            Matcher header = HEADER.matcher(lines[from]);
            if (header.matches()) {
                headers++;
                int to = from;
                while (!lines[to].equals(header.group(1) + "}")) {
                    to++;
                }
                due(lines[from] + " is short", true, to - from < 60);
                String body = String.join("\n", Arrays.asList(lines).subList(from + 1, to));
                boolean callsItself = Pattern.compile("(?<![.\\w])" + header.group(3) + "\\(").matcher(body).find();
                due(lines[from] + " is private static if it calls itself", true,
                    !callsItself || header.group(2).startsWith("private static "));
            }
        }
        int methods = OnionCourt.class.getDeclaredMethods().length;
        for (Class<?> c : OnionCourt.class.getDeclaredClasses()) {
            methods += c.getDeclaredMethods().length;
        }
        due("the head of every method was found", true, headers >= methods);
    }
}
