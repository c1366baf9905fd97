import java.io.IOException;
import java.io.StringWriter;
import java.lang.reflect.InvocationTargetException;
import java.lang.reflect.Method;
import java.lang.reflect.Modifier;
import java.net.URL;
import java.net.URLClassLoader;
import java.nio.file.Files;
import java.nio.file.Path;
import java.util.ArrayList;
import java.util.List;
import java.util.function.BiConsumer;
import java.util.regex.Matcher;
import java.util.regex.Pattern;
import java.util.stream.Stream;
import javax.tools.JavaCompiler;
import javax.tools.ToolProvider;

/**
 * What README.md shows. Its examples are compiled as they stand there, each with an object of its
 * own, and every call in them has to answer what the page says behind it; its tables and the names
 * of files have to be right, too.
 */
public final class ReadmeTest {
    private static final String START = "```java";
    private static final String END = "```";

    /** A call, and behind it the number or the code that it answers, perhaps with words. */
    private static final Pattern ANSWERED = Pattern.compile("(x\\.\\w+\\([^;]*\\));\\s*// (-?\\d+|[A-Z_]+)(?::? .*)?");
    private static final Pattern CALL = Pattern.compile("\\bx\\.(\\w+)\\(");
    private static final Pattern CALL_ROW = Pattern.compile("\\| `(\\w+)\\(([^)]*)\\)` \\|.*");
    private static final Pattern CODE_ROW = Pattern.compile("\\| `([A-Z_]+)` \\| (-?\\d+) \\|.*");
    private static final Pattern NUMBER_ROW = Pattern.compile("\\| (\\d) \\|[^|]*\\| (\\d+) \\| (\\d+) \\| (\\d+) \\|");
    private static final Pattern FILE = Pattern.compile("`((?:src|\\.ci)/[\\w/.]+)`");

    private static final Answers answers = new Answers("ReadmeTest");

    private ReadmeTest() {
    }

    public static void main(String[] args) throws IOException {
        Path page = Path.of(args.length > 0 ? args[0] : "README.md");
        List<String> lines = Files.readAllLines(page);
        examples(lines);
        eachCallIsShown(lines);
        callTable(lines);
        codeTable(lines);
        numberTable(lines);
        files(String.join("\n", lines));
        answers.end();
    }

    private static List<Method> face() {
        return Stream.of(BoreholeColumns.class.getDeclaredMethods())
                .filter(method -> Modifier.isPublic(method.getModifiers())).toList();
    }

    private static List<Matcher> rows(List<String> lines, Pattern pattern) {
        return lines.stream().map(pattern::matcher).filter(Matcher::matches).toList();
    }

    private static void examples(List<String> lines) throws IOException {
        answers.part("the examples");
        Path directory = Files.createTempDirectory("readme");
        Path source = directory.resolve("Shown.java");
        Files.writeString(source, program(lines));
        JavaCompiler compiler = ToolProvider.getSystemJavaCompiler();
        answers.holds("a compiler is there", compiler != null);
        if (compiler != null) {
            StringWriter said = new StringWriter();
            List<String> options = List.of("-encoding", "UTF-8", "-d", directory.toString(),
                    "-cp", System.getProperty("java.class.path"));
            boolean compiled;
            try (var files = compiler.getStandardFileManager(null, null, null)) {
                compiled = compiler.getTask(said, files, null, options, null, files.getJavaFileObjects(source)).call();
            }
            answers.holds("the examples compile " + said, compiled);
            if (compiled) {
                run(directory);
            }
        }
        try (Stream<Path> made = Files.list(directory)) {
            for (Path path : made.toList()) {
                Files.delete(path);
            }
        }
        Files.delete(directory);
    }

    private static void run(Path directory) throws IOException {
        BiConsumer<String, int[]> due = (call, got) -> answers.due(call, got[0], got[1]);
        try (URLClassLoader loader = new URLClassLoader(new URL[] {directory.toUri().toURL()})) {
            loader.loadClass("Shown").getMethod("run", BiConsumer.class).invoke(null, due);
        } catch (InvocationTargetException thrown) {
            answers.holds("no example throws " + thrown.getCause(), false);
        } catch (ReflectiveOperationException missing) {
            answers.holds("the examples run " + missing, false);
        }
    }

    /** The examples as a class, in which each answered call is handed on with what is due. */
    private static String program(List<String> lines) {
        StringBuilder program = new StringBuilder("public final class Shown {\n");
        program.append("static final int INVALID_ARGUMENT = -1000001, ILLEGAL_STATE = -1000002,\n");
        program.append("CAPACITY_EXCEEDED = -1000003, NONE = -1000009;\n");
        program.append("public static void run(java.util.function.BiConsumer<String, int[]> due) {\n");
        boolean inside = false;
        for (int line = 0; line < lines.size(); line++) {
            String text = lines.get(line);
            if (text.equals(START)) {
                inside = true;
                program.append("{\n");
            } else if (text.equals(END) && inside) {
                inside = false;
                program.append("}\n");
            } else if (inside) {
                program.append(statement(text, line + 1)).append('\n');
            }
        }
        answers.holds("each example has an end", !inside);
        return program.append("}\n}\n").toString();
    }

    private static String statement(String text, int line) {
        Matcher answered = ANSWERED.matcher(text);
        if (!answered.matches()) {
            answers.holds("line " + line + " tells what " + text + " answers", !text.startsWith("x."));
            return text;
        }
        String call = answered.group(1);
        return "due.accept(\"line " + line + ", " + call + "\", new int[] {" + call + ", " + answered.group(2) + "});";
    }

    private static void eachCallIsShown(List<String> lines) {
        answers.part("the examples");
        List<String> shown = new ArrayList<>();
        boolean inside = false;
        for (String line : lines) {
            inside = line.equals(START) || inside && !line.equals(END);
            Matcher call = CALL.matcher(line);
            while (inside && call.find()) {
                shown.add(call.group(1));
            }
        }
        for (Method method : face()) {
            answers.holds(method.getName() + "() is shown", shown.contains(method.getName()));
        }
    }

    private static void callTable(List<String> lines) {
        answers.part("the table of calls");
        List<String> told = new ArrayList<>();
        for (Matcher row : rows(lines, CALL_ROW)) {
            String arguments = row.group(2);
            told.add(row.group(1) + " " + (arguments.isEmpty() ? 0 : arguments.split(", ").length));
        }
        List<String> due = face().stream().map(method -> method.getName() + " " + method.getParameterCount()).toList();
        answers.holds(told + " are the calls that there are", told.stream().sorted().toList().equals(due.stream().sorted().toList()));
    }

    private static void codeTable(List<String> lines) {
        answers.part("the table of codes");
        List<String> told = rows(lines, CODE_ROW).stream().map(row -> row.group(1) + " " + row.group(2)).toList();
        List<String> due = List.of("INVALID_ARGUMENT " + BoreholeColumns.INVALID_ARGUMENT,
                "ILLEGAL_STATE " + BoreholeColumns.ILLEGAL_STATE,
                "CAPACITY_EXCEEDED " + BoreholeColumns.CAPACITY_EXCEEDED, "NONE " + BoreholeColumns.NONE);
        answers.holds(told + " are the codes that there are", told.equals(due));
    }

    private static void numberTable(List<String> lines) {
        answers.part("the table of numbers");
        List<Matcher> rows = rows(lines, NUMBER_ROW);
        answers.due("rows", rows.size(), 5);
        for (int what = 0; what < rows.size(); what++) {
            Matcher row = rows.get(what);
            int from = Integer.parseInt(row.group(2));
            int to = Integer.parseInt(row.group(3));
            int first = Integer.parseInt(row.group(4));
            BoreholeColumns x = new BoreholeColumns();
            answers.due("the number of row " + what, Integer.parseInt(row.group(1)), what);
            answers.due("the least one of " + what, x.setNumber(what, from), first);
            answers.due("the greatest one of " + what, x.setNumber(what, to), from);
            answers.due("one less of " + what, x.setNumber(what, from - 1), BoreholeColumns.INVALID_ARGUMENT);
            answers.due("one more of " + what, x.setNumber(what, to + 1), BoreholeColumns.INVALID_ARGUMENT);
        }
    }

    private static void files(String page) throws IOException {
        answers.part("the files");
        List<String> named = FILE.matcher(page).results().map(file -> file.group(1)).toList();
        for (String file : named) {
            answers.holds(file + " is there", Files.exists(Path.of(file)));
        }
        try (Stream<Path> tests = Files.list(Path.of("src/test/java"))) {
            for (String test : tests.map(path -> "src/test/java/" + path.getFileName()).toList()) {
                answers.holds(test + " is named", !test.endsWith("Test.java") || named.contains(test));
            }
        }
    }
}
