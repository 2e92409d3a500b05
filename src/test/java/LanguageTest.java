import java.lang.reflect.Field;
import java.lang.reflect.Method;
import java.lang.reflect.Modifier;
import java.nio.file.Files;
import java.nio.file.Path;
import java.util.ArrayList;
import java.util.Arrays;
import java.util.List;
import java.util.TreeSet;
import java.util.regex.Matcher;
import java.util.regex.Pattern;

/** The rules of LANGUAGE.md, as far as a scan of the source and of the compiled classes can tell them. */
public final class LanguageTest {
    private static final String SOURCE = "src/main/java/ThingMaker.java";
    private static final String[] WORDS = {
        "package", "lambda", "try", "catch", "finally", "throw", "throws", "synchronized", "assert", "record", "var",
        "instanceof", "protected", "native", "volatile", "Object", "Class", "Thread", "Random", "Math.random",
        "System.out", "System.err", "System.currentTimeMillis", "System.nanoTime", "System.exit"};
    private static final String[] CALLS = {
        "Math.min", "Math.max", "Math.floorMod", "Integer.bitCount", "System.arraycopy", "Arrays.fill"};

    private static final Checks C = new Checks("LanguageTest");

    public static void main(String[] args) throws Exception {
        String source = Files.readString(Path.of(SOURCE));
        signs(source);
        String code = source.replaceAll("(?s)/\\*.*?\\*/", "").replaceAll("//[^\n]*", "");
        words(code);
        calls(code);
        loopsMakeNothing(code);
        lengths(code);
        classes();
        C.end();
    }

    private static void signs(String source) {
        for (int i = 0; i < source.length(); i++) {
            char c = source.charAt(i);
            C.dueTrue("sign " + (int) c + " at " + i, c == '\n' || (c >= 32 && c < 127));
        }
    }

    private static void words(String code) {
        for (String word : WORDS) {
            C.dueTrue("no " + word, !Pattern.compile("\\b" + Pattern.quote(word) + "\\b").matcher(code).find());
        }
        C.dueTrue("no ->", !code.contains("->"));
        C.dueTrue("no ::", !code.contains("::"));
        C.dueTrue("no initialiser block", !Pattern.compile("static\\s*\\{").matcher(code).find());
        Matcher imports = Pattern.compile("import ([^;]*);").matcher(code);
        while (imports.find()) {
            C.dueTrue("import of " + imports.group(1), imports.group(1).equals("java.util.Arrays"));
        }
    }

    /** Each name of a class with a point behind it is of the library, and must be one that is listed. */
    private static void calls(String code) {
        List<String> listed = Arrays.asList(CALLS);
        Matcher m = Pattern.compile("\\b[A-Z][a-z]\\w*\\.\\w+").matcher(code.replaceAll("import [^;]*;", ""));
        while (m.find()) {
            C.dueTrue("listed: " + m.group(), listed.contains(m.group()));
        }
    }

    private static void loopsMakeNothing(String code) {
        int made = 0;
        for (String line : code.split("\n")) {
            if (line.contains("new ")) {
                made++;
                boolean row = line.trim().startsWith("private final ");
                C.dueTrue("made once: " + line.trim(), row || line.contains("State room = new State();"));
            }
        }
        C.dueTrue("something is made", made > 0);
    }

    private static void lengths(String code) {
        int lines = 0;
        int longest = 0;
        boolean inMethod = false;
        String indent = "";
        for (String line : code.split("\n")) {
            Matcher head = Pattern.compile("^( {4}| {8})[\\w\\[\\] ]+\\((.*)\\) \\{$").matcher(line);
            if (head.matches()) {
                inMethod = true;
                indent = head.group(1);
                lines = 0;
                C.dueTrue("parameters: " + line.trim(), head.group(2).split(",").length <= 7);
            }
            lines++;
            if (inMethod && line.equals(indent + "}")) {
                longest = Math.max(longest, lines);
                inMethod = false;
            }
        }
        C.dueTrue("longest method: " + longest, longest > 5 && longest <= 60);
    }

    private static void classes() {
        List<Class<?>> all = new ArrayList<>(Arrays.asList(ThingMaker.class.getDeclaredClasses()));
        TreeSet<String> face = new TreeSet<>();
        for (Method m : ThingMaker.class.getDeclaredMethods()) {
            if (Modifier.isPublic(m.getModifiers())) {
                face.add(m.getName());
            }
        }
        C.dueTrue("not too many classes", all.size() <= 11);
        for (Class<?> inside : all) {
            for (Method m : inside.getDeclaredMethods()) {
                C.dueTrue("not a name of the face: " + m, !face.contains(m.getName()));
            }
        }
        all.add(ThingMaker.class);
        for (Class<?> c : all) {
            int fields = 0;
            for (Field f : c.getDeclaredFields()) {
                if (Modifier.isStatic(f.getModifiers())) {
                    C.dueTrue("final: " + f, Modifier.isFinal(f.getModifiers()));
                } else {
                    fields++;
                }
            }
            C.dueTrue("not too many fields: " + c, fields <= 20);
        }
    }
}
