import java.io.IOException;
import java.io.StringWriter;
import java.lang.reflect.Field;
import java.lang.reflect.Method;
import java.lang.reflect.Modifier;
import java.net.URI;
import java.net.URL;
import java.net.URLClassLoader;
import java.nio.file.Files;
import java.nio.file.Path;
import java.util.Arrays;
import java.util.List;
import java.util.Set;
import java.util.TreeSet;
import java.util.regex.Matcher;
import java.util.regex.Pattern;
import java.util.stream.Collectors;
import java.util.stream.Stream;
import javax.tools.JavaCompiler;
import javax.tools.JavaFileObject;
import javax.tools.SimpleJavaFileObject;
import javax.tools.ToolProvider;

/**
 * The code blocks of README.md are compiled as they stand there, as one program, and each call must answer what
 * stands behind its two slashes. The page must also show every method, list the error codes of the class and
 * name every test of the project.
 */
public final class ReadmeTests {
    private static final Path README = Path.of("README.md");
    private static final Path DOCUMENT = Path.of("../shared/DOC.md");
    private static final Path TESTS = Path.of("src/test/java");
    private static final String PROGRAM = "ReadmeProgram";
    private static final String BLOCK_START = "```java";
    private static final String BLOCK_END = "```";
    private static final String HELPER_START = "static ";

    /** A statement, and behind the slashes a number, a text or an error code, then the end or a colon. */
    private static final Pattern ANSWERED = Pattern.compile(
        "(?:int (\\w+) = )?(\\S.*);\\s+// (-?\\d+(?:\\.\\d+)?|\"[^\"]*\"|[A-Z][A-Z_]+(?: - \\d+)?)(?::.*)?");
    private static final Pattern CREATION = Pattern.compile("StatuteConsolidator \\w+ = new StatuteConsolidator\\(\\);");
    private static final Pattern TABLE_ROW = Pattern.compile("\\| `([A-Z_]+)` \\| (-\\d+) \\| (.*) \\|");

    private static int wrong = 0;
    private static int checked = 0;

    public static void main(String[] args) throws Exception {
        List<String> lines = Files.readAllLines(README);
        String program = programOf(lines);
        runProgram(program);
        checkMethodsShown(program);
        checkErrorCodes(lines);
        checkTestsNamed(String.join("\n", lines));
        if (checked == 0) {
            report("the page shows no answers");
        }
        System.out.println(wrong == 0 ? checked + " answers of README.md are as it says" : wrong + " faults in README.md");
        if (wrong != 0) {
            System.exit(1);
        }
    }

    private static void report(String text) {
        wrong++;
        System.out.println(text);
    }

    // ---- what the program calls for each answer

    public static void due(int line, String call, long got, long want) {
        compare(line, call, String.valueOf(got), String.valueOf(want));
    }

    /** A float's answer is written as the page writes it, so that 0.1 is not a fault of its last bits. */
    public static void due(int line, String call, float got, double want) {
        compare(line, call, String.valueOf(got), String.valueOf((float) want));
    }

    public static void due(int line, String call, double got, double want) {
        compare(line, call, String.valueOf(got), String.valueOf(want));
    }

    public static void due(int line, String call, String got, String want) {
        compare(line, call, got, want);
    }

    private static void compare(int line, String call, String got, String want) {
        checked++;
        if (!got.equals(want)) {
            report("line " + line + ": " + call + " answered " + got + ", the page says " + want);
        }
    }

    // ---- the program of the page

    /** Functions go beside the others of the class, and all other lines into one function. */
    private static String programOf(List<String> lines) {
        StringBuilder helpers = new StringBuilder();
        StringBuilder calls = new StringBuilder();
        boolean inBlock = false;
        boolean inHelper = false;
        for (int at = 0; at < lines.size(); at++) {
            String line = lines.get(at);
            if (line.equals(BLOCK_END)) {
                inBlock = false;
                inHelper = false;
            } else if (line.equals(BLOCK_START)) {
                inBlock = true;
            } else if (inBlock) {
                inHelper |= line.startsWith(HELPER_START);
                (inHelper ? helpers : calls).append(inHelper ? line : checkedLine(line, at + 1)).append('\n');
            }
        }
        return "public final class " + PROGRAM + " {\n" + helpers + "public static void run() {\n" + calls + "}\n}\n";
    }

    private static String checkedLine(String line, int number) {
        Matcher answered = ANSWERED.matcher(line);
        if (answered.matches()) {
            String variable = answered.group(1);
            String call = answered.group(2);
            String declaration = variable == null ? "" : "int " + variable + " = " + call + ";";
            return declaration + "ReadmeTests.due(" + number + ", \"" + call.replace("\"", "\\\"") + "\", "
                + (variable == null ? call : variable) + ", " + wanted(answered.group(3)) + ");";
        }
        if (!line.isBlank() && !CREATION.matcher(line).matches()) {
            report("line " + number + " does not say what it answers: " + line);
        }
        return line;
    }

    private static String wanted(String answer) {
        if (Character.isUpperCase(answer.charAt(0))) {
            return "StatuteConsolidator." + answer;
        }
        return answer;
    }

    private static void runProgram(String program) throws Exception {
        JavaCompiler compiler = ToolProvider.getSystemJavaCompiler();
        if (compiler == null) {
            report("this java has no compiler: run it with a JDK");
            return;
        }
        String classPath = System.getProperty("java.class.path");
        Path classes = Files.createTempDirectory("readme");
        StringWriter messages = new StringWriter();
        boolean compiled = compiler.getTask(messages, null, null,
            Arrays.asList("-d", classes.toString(), "-cp", classPath), null, List.of(source(program))).call();
        if (compiled) {
            try (URLClassLoader loader = new URLClassLoader(
                new URL[] {classes.toUri().toURL()}, ReadmeTests.class.getClassLoader())) {
                loader.loadClass(PROGRAM).getMethod("run").invoke(null);
            }
        } else {
            report("the code of the page does not compile:\n" + messages);
        }
        removeFiles(classes);
    }

    private static JavaFileObject source(String program) {
        return new SimpleJavaFileObject(URI.create("string:///" + PROGRAM + ".java"), JavaFileObject.Kind.SOURCE) {
            @Override
            public CharSequence getCharContent(boolean ignoreEncodingErrors) {
                return program;
            }
        };
    }

    private static void removeFiles(Path directory) throws IOException {
        try (Stream<Path> files = Files.list(directory)) {
            for (Path file : files.collect(Collectors.toList())) {
                Files.delete(file);
            }
        }
        Files.delete(directory);
    }

    // ---- what the page must hold besides

    private static void checkMethodsShown(String program) {
        for (Method method : StatuteConsolidator.class.getDeclaredMethods()) {
            if (Modifier.isPublic(method.getModifiers()) && !program.contains("statute." + method.getName() + "(")) {
                report("the page does not show " + method.getName());
            }
        }
    }

    private static void checkErrorCodes(List<String> lines) throws IOException, IllegalAccessException {
        Set<String> listed = new TreeSet<>();
        String document = Files.readString(DOCUMENT).replace("`", "");
        for (String line : lines) {
            Matcher row = TABLE_ROW.matcher(line);
            if (row.matches()) {
                listed.add(row.group(1) + " = " + row.group(2));
                String sentence = row.group(1) + " = " + row.group(2) + ": " + row.group(3).replace("`", "");
                if (!document.contains(sentence)) {
                    report("the document does not say '" + sentence + "'");
                }
            }
        }
        Set<String> due = new TreeSet<>();
        for (Field field : StatuteConsolidator.class.getFields()) {
            due.add(field.getName() + " = " + field.getInt(null));
        }
        if (!listed.equals(due)) {
            report("the table lists " + listed + ", the class has " + due);
        }
    }

    private static void checkTestsNamed(String page) throws IOException {
        try (Stream<Path> tests = Files.list(TESTS)) {
            for (Path test : tests.collect(Collectors.toList())) {
                String name = test.getFileName().toString().replace(".java", "");
                if (!page.contains("- `" + name + "`: ")) {
                    report("the page does not name " + name);
                }
            }
        }
    }
}
