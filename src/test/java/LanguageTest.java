import java.lang.reflect.Field;
import java.lang.reflect.Method;
import java.lang.reflect.Modifier;
import java.nio.file.Files;
import java.nio.file.Path;
import java.util.ArrayList;
import java.util.Arrays;
import java.util.List;
import java.util.TreeSet;
import java.util.regex.Matcher;
import java.util.regex.Pattern;

/** The rules of LANGUAGE.md, as far as a scan of the source and of the compiled class can tell them. */
public final class LanguageTest {
    private static final String SOURCE = "src/main/java/ThingMaker.java";
    /** Rules 6 and 13, and the words of what rules 3 and 4 do not list. */
    private static final String[] WORDS = {
        "package", "finally", "throws", "synchronized", "assert", "protected", "native", "volatile", "transient",
        "Object", "Class", "Thread", "Random", "Date", "Throwable", "Exception", "Error",
        "NullPointerException", "ArrayIndexOutOfBoundsException", "ClassCastException", "NegativeArraySizeException",
        "ArrayStoreException", "getMessage", "Float", "Double", "Character", "Long.valueOf", "stream",
        "Math.random", "System.out", "System.err", "System.currentTimeMillis", "System.nanoTime", "System.exit"};
    /** Rules 4 and 6: what may be imported. */
    private static final String[] IMPORTS = {
        "java.util.ArrayList", "java.util.List", "java.util.Arrays", "java.util.Iterator", "java.util.NoSuchElementException",
        "java.util.*"};
    /** Rule 4: what may be used of a class of the library by its name, beside the functions over int and long. */
    private static final String[] CALLS = {
        "System.arraycopy", "Arrays.copyOf", "Arrays.copyOfRange", "Arrays.fill", "List.of",
        "Integer.MAX_VALUE", "Integer.MIN_VALUE", "Long.MAX_VALUE", "Long.MIN_VALUE"};

    private static final Checks C = new Checks("LanguageTest");

    public static void main(String[] args) throws Exception {
        String source = Files.readString(Path.of(SOURCE));
        signs(source);
        String code = source.replaceAll("(?s)/\\*.*?\\*/", "").replaceAll("//[^\n]*", "");
        words(code);
        calls(code);
        lengths(code);
        classes();
        C.end();
    }

    private static void signs(String source) {
        for (int i = 0; i < source.length(); i++) {
            char c = source.charAt(i);
            C.dueTrue("sign " + (int) c + " at " + i, c == '\n' || (c >= 32 && c < 127));
        }
    }

    private static void words(String code) {
        for (String word : WORDS) {
            C.dueTrue("no " + word, !Pattern.compile("\\b" + Pattern.quote(word) + "\\b").matcher(code).find());
        }
        String noCases = code.replaceAll("(case [^\n>]*|default )->", "");
        C.dueTrue("no lambda", !noCases.contains("->"));
        C.dueTrue("no method reference", !code.contains("::"));
        C.dueTrue("no initialiser block", !Pattern.compile("static\\s*\\{").matcher(code).find());
        Matcher imports = Pattern.compile("import ([^;]*);").matcher(code);
        while (imports.find()) {
            C.dueTrue("import of " + imports.group(1), Arrays.asList(IMPORTS).contains(imports.group(1)));
        }
    }

    /** Each name of a class with a point behind it is of the file itself, or of the library, and then it must be listed. */
    private static void calls(String code) {
        TreeSet<String> own = new TreeSet<>();
        Matcher declared = Pattern.compile("\\b(?:class|enum|record|interface) (\\w+)").matcher(code);
        while (declared.find()) {
            own.add(declared.group(1));
        }
        Matcher m = Pattern.compile("\\b([A-Z][a-z]\\w*)\\.(\\w+)").matcher(code.replaceAll("import [^;]*;", ""));
        while (m.find()) {
            boolean listed = Arrays.asList(CALLS).contains(m.group()) || isFunctionOfNumbers(m.group(1), m.group(2));
            C.dueTrue("listed: " + m.group(), own.contains(m.group(1)) || listed);
        }
    }

    /** The static functions of Integer, Long and Math over int and long, but for those whose name ends in Exact. */
    private static boolean isFunctionOfNumbers(String type, String name) {
        for (Class<?> c : new Class<?>[] {Math.class, Integer.class, Long.class}) {
            for (Method m : c.getMethods()) {
                if (c.getSimpleName().equals(type) && m.getName().equals(name) && !name.endsWith("Exact")
                        && Modifier.isStatic(m.getModifiers()) && isNumber(m.getReturnType())
                        && Arrays.stream(m.getParameterTypes()).allMatch(LanguageTest::isNumber)) {
                    return true;
                }
            }
        }
        return false;
    }

    private static boolean isNumber(Class<?> type) {
        return type == int.class || type == long.class;
    }

    /** Rule 11: methods of some sixty lines, with at most seven parameters. */
    private static void lengths(String code) {
        int lines = 0;
        int longest = 0;
        boolean inMethod = false;
        String indent = "";
        for (String line : code.split("\n")) {
            Matcher head = Pattern.compile("^( {4}| {8})[\\w\\[\\]<> ]+\\((.*)\\) \\{$").matcher(line);
            if (head.matches()) {
                inMethod = true;
                indent = head.group(1);
                lines = 0;
                C.dueTrue("parameters: " + line.trim(), head.group(2).split(",").length <= 7);
            }
            lines++;
            if (inMethod && line.equals(indent + "}")) {
                longest = Math.max(longest, lines);
                inMethod = false;
            }
        }
        C.dueTrue("longest method: " + longest, longest <= 65);
    }

    /** Rule 11: some twelve classes, each with some twenty fields beside its constants. Rule 5: static fields are final. */
    private static void classes() {
        List<Class<?>> all = new ArrayList<>(Arrays.asList(ThingMaker.class.getDeclaredClasses()));
        all.add(ThingMaker.class);
        C.dueTrue("not too many classes", all.size() <= 13);
        TreeSet<String> face = new TreeSet<>();
        for (Method m : ThingMaker.class.getDeclaredMethods()) {
            if (Modifier.isPublic(m.getModifiers())) {
                face.add(m.getName());
            }
        }
        for (Class<?> c : all) {
            int fields = 0;
            for (Field f : c.getDeclaredFields()) {
                if (Modifier.isStatic(f.getModifiers())) {
                    C.dueTrue("final: " + f, Modifier.isFinal(f.getModifiers()));
                } else {
                    fields++;
                }
            }
            C.dueTrue("not too many fields: " + c, fields <= 22);
            for (Method m : c.getDeclaredMethods()) {
                boolean hidden = Modifier.isPrivate(m.getModifiers());
                C.dueTrue("not a name of the face: " + m, !hidden || !face.contains(m.getName()));
            }
        }
    }
}
