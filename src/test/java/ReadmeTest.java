import java.lang.reflect.Method;
import java.lang.reflect.Modifier;
import java.net.URL;
import java.net.URLClassLoader;
import java.nio.file.Files;
import java.nio.file.Path;
import java.util.List;
import java.util.TreeSet;
import java.util.regex.Matcher;
import java.util.regex.Pattern;
import java.util.stream.Collectors;
import java.util.stream.Stream;
import javax.tools.JavaCompiler;
import javax.tools.ToolProvider;

/** README.md: its program compiles, each call in it answers what stands behind it, and its table names each test. */
public final class ReadmeTest {
    private static final Path PAGE = Path.of("README.md");
    private static final Path TESTS = Path.of("src/test/java");
    private static final Path ROOM = Path.of("build/readme");
    private static final Pattern PIECE = Pattern.compile("(?s)```java\n(.*?)```");
    private static final Pattern CALL = Pattern.compile("(x\\.(\\w+)\\(.*\\)); +// (-?[0-9.]+|BAD|STATE|FULL|NONE): .*");

    private static final Checks C = new Checks("ReadmeTest");

    public static void main(String[] args) throws Exception {
        String page = Files.readString(PAGE);
        run(program(page));
        everyTestIsNamed(page);
        C.end();
    }

    /** The pieces of the page as one class, which answers a row of each call, what is due, and what it answered. */
    private static String program(String page) {
        StringBuilder program = new StringBuilder("public final class ReadmeProgram {\n");
        program.append("public static java.util.List<Object> answers() {\n");
        program.append("java.util.List<Object> rows = new java.util.ArrayList<>();\n");
        TreeSet<String> called = new TreeSet<>();
        Matcher pieces = PIECE.matcher(page);
        while (pieces.find()) {
            for (String line : pieces.group(1).split("\n")) {
                Matcher call = CALL.matcher(line);
                if (call.matches()) {
                    called.add(call.group(2));
                    program.append(row(call.group(1), call.group(3))).append('\n');
                } else {
                    C.dueTrue("an answer behind " + line, !line.startsWith("x."));
                    program.append(line).append('\n');
                }
            }
        }
        C.dueText("each method is shown", face().toString(), called.toString());
        return program.append("return rows;\n}\n}\n").toString();
    }

    private static String row(String call, String told) {
        boolean named = Character.isLetter(told.charAt(0));
        String due = named ? "ThingMaker." + told : told.indexOf('.') >= 0 ? told + "f" : told;
        return "rows.add(\"" + call.replace("\"", "\\\"") + "\"); rows.add(" + due + "); rows.add(" + call + ");";
    }

    private static TreeSet<String> face() {
        TreeSet<String> names = new TreeSet<>();
        for (Method m : ThingMaker.class.getDeclaredMethods()) {
            if (Modifier.isPublic(m.getModifiers())) {
                names.add(m.getName());
            }
        }
        return names;
    }

    private static void run(String program) throws Exception {
        JavaCompiler compiler = ToolProvider.getSystemJavaCompiler();
        C.dueTrue("a compiler is there", compiler != null);
        if (compiler == null) {
            return;
        }
        Files.createDirectories(ROOM);
        Path file = ROOM.resolve("ReadmeProgram.java");
        Files.writeString(file, program);
        String classes = System.getProperty("java.class.path");
        int exit = compiler.run(null, null, null, "-cp", classes, "-d", ROOM.toString(), file.toString());
        C.due("compiling the program of " + PAGE, 0, exit);
        if (exit != 0) {
            return;
        }
        try (URLClassLoader loader = new URLClassLoader(new URL[] {ROOM.toUri().toURL()})) {
            List<?> rows = (List<?>) loader.loadClass("ReadmeProgram").getMethod("answers").invoke(null);
            for (int i = 0; i + 2 < rows.size(); i += 3) {
                C.dueText(String.valueOf(rows.get(i)), String.valueOf(rows.get(i + 1)), String.valueOf(rows.get(i + 2)));
            }
        }
    }

    private static void everyTestIsNamed(String page) throws Exception {
        try (Stream<Path> files = Files.list(TESTS)) {
            List<String> tests = files.map(f -> f.getFileName().toString().replace(".java", ""))
                    .filter(name -> name.endsWith("Test")).sorted().collect(Collectors.toList());
            for (String name : tests) {
                C.dueTrue("the page names " + name, page.contains("\n| " + name + " | "));
            }
        }
    }
}
