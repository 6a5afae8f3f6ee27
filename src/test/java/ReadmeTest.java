import java.io.IOException;
import java.lang.reflect.InvocationTargetException;
import java.lang.reflect.Method;
import java.nio.file.Files;
import java.nio.file.Path;
import java.util.ArrayList;
import java.util.List;
import java.util.Set;
import java.util.TreeSet;
import java.util.regex.Matcher;
import java.util.regex.Pattern;
import java.util.stream.Stream;

/** README.md says what holds: its example's answers, its tables of calls, and its commands. */
public final class ReadmeTest {
    private static final Pattern FENCED = Pattern.compile("(?s)```java\n(.*?)```");
    /** A call, what it answers or throws, and perhaps why. */
    private static final Pattern STEP = Pattern.compile("cave\\.(\\w+)\\((.*)\\); +// ([^:]+)(: .+)?");
    /** A row of a table of calls: the call, what it answers, and what it throws. */
    private static final Pattern ROW = Pattern.compile("\\| `(\\w+ \\w+\\([^`]*\\))`( \\*)? \\| [^|]+ \\|([^|]*)\\|");
    private static final Pattern EXCEPTION = Pattern.compile("`(\\w+Exception)`: ");
    private static final Pattern COMMANDS = Pattern.compile("(?m)(^    (javac|java|bash) .*\n)+");
    private static final Path README = Path.of(System.getProperty("readme", "README.md")).toAbsolutePath();
    private static final String MADE = "CaveEchoes cave = new CaveEchoes();";

    public static void main(String[] args) throws Exception {
        String readme = Files.readString(README);
        example(readme);
        calls(readme);
        undoable(readme);
        tests(readme);
        commands(readme);
        Checks.due("README.md says for how many calls an object is good", readme.contains("at most 512 calls"), true);
        Checks.end("ReadmeTest");
    }

    // ---- the example

    private static void example(String readme) throws Exception {
        Matcher fenced = FENCED.matcher(readme);
        Checks.due("there is an example", fenced.find(), true);
        String[] lines = fenced.group(1).split("\n");
        Checks.due("the example begins with", lines[0], MADE);
        CaveEchoes cave = new CaveEchoes();
        for (int line = 1; line < lines.length; line++) {
            Matcher step = STEP.matcher(lines[line]);
            boolean readable = step.matches();
            Checks.due("this is a call and its answer: " + lines[line], readable, true);
            if (readable) {
                String call = step.group(1) + "(" + step.group(2) + ")";
                Checks.due("README.md: " + call, answer(cave, step.group(1), step.group(2)), step.group(3));
            }
        }
        Checks.due("there is but one example", fenced.find(), false);
        Checks.due("the example has calls, and an object is good for them", lines.length > 10 && lines.length < 512, true);
    }

    private static String answer(CaveEchoes cave, String name, String arguments) throws Exception {
        String[] words = arguments.isEmpty() ? new String[0] : arguments.split(", ");
        Object[] values = new Object[words.length];
        Class<?>[] types = new Class<?>[words.length];
        for (int i = 0; i < words.length; i++) {
            values[i] = value(words[i]);
            types[i] = int.class;
        }
        try {
            return String.valueOf(CaveEchoes.class.getMethod(name, types).invoke(cave, values));
        } catch (InvocationTargetException e) {
            return "throws " + e.getCause().getClass().getSimpleName();
        }
    }

    /** A constant of the class, a character's code, or a number. */
    private static int value(String word) throws Exception {
        if (word.startsWith("CaveEchoes.")) {
            return CaveEchoes.class.getField(word.substring(11)).getInt(null);
        }
        return word.matches("'.'") ? word.charAt(1) : Integer.parseInt(word);
    }

    // ---- the tables of calls

    private static void calls(String readme) {
        Set<String> told = new TreeSet<>();
        Matcher row = ROW.matcher(readme);
        while (row.find()) {
            StringBuilder call = new StringBuilder(row.group(1).replaceAll("int \\w+(?=[,)])", "int"));
            Matcher exception = EXCEPTION.matcher(row.group(3));
            while (exception.find()) {
                call.append(' ').append(exception.group(1));
            }
            Checks.due(call + " stands in one row", told.add(call.toString()), true);
        }
        Set<String> face = new TreeSet<>();
        for (Method method : CaveEchoes.class.getMethods()) {
            if (method.getDeclaringClass() == CaveEchoes.class) {
                face.add(told(method));
            }
        }
        Checks.due("the calls of README.md and what they throw", told, face);
    }

    private static String told(Method method) {
        List<String> types = new ArrayList<>();
        for (Class<?> type : method.getParameterTypes()) {
            types.add(type.getSimpleName());
        }
        StringBuilder told = new StringBuilder(method.getReturnType().getSimpleName());
        told.append(' ').append(method.getName()).append('(').append(String.join(", ", types)).append(')');
        for (Class<?> exception : method.getExceptionTypes()) {
            told.append(' ').append(exception.getSimpleName());
        }
        return told.toString();
    }

    /** The calls that are marked in README.md are those that the document marks. */
    private static void undoable(String readme) throws IOException {
        Path document = Path.of(System.getProperty("document", "../shared/DOC.md"));
        if (!Files.isReadable(document)) {
            System.out.println("ReadmeTest: there is no " + document + " to compare the marks with");
            return;
        }
        Set<String> due = new TreeSet<>();
        Matcher promise = Pattern.compile("(?m)^`(\\w+ \\w+\\([^`)]*\\))[^`]*`: .*Undoable").matcher(Files.readString(document));
        while (promise.find()) {
            due.add(promise.group(1));
        }
        Set<String> marked = new TreeSet<>();
        Matcher row = ROW.matcher(readme);
        while (row.find()) {
            if (row.group(2) != null) {
                marked.add(row.group(1));
            }
        }
        Checks.due("the calls that are undoable", marked, due);
    }

    // ---- the tests and how they are run

    private static void tests(String readme) throws IOException {
        Set<String> there = new TreeSet<>();
        try (Stream<Path> files = Files.list(README.resolveSibling("src/test/java"))) {
            files.map(file -> file.getFileName().toString()).filter(name -> name.endsWith("Test.java"))
                    .forEach(name -> there.add(name.replace(".java", "")));
        }
        Set<String> told = new TreeSet<>();
        Matcher row = Pattern.compile("(?m)^\\| `(\\w+Test)` \\|").matcher(readme);
        while (row.find()) {
            told.add(row.group(1));
        }
        Checks.due("the tests of README.md", told, there);
    }

    /** Runs the commands of README.md, but for the one that runs all tests, this one with them. */
    private static void commands(String readme) throws Exception {
        int found = 0;
        Matcher block = COMMANDS.matcher(readme);
        while (block.find()) {
            found++;
            String command = block.group().strip().replaceAll("\n +", " && ");
            if (command.equals("bash .ci/run")) {
                Checks.due(".ci/run can be run", Files.isExecutable(README.resolveSibling(".ci/run")), true);
            } else if (hasItsTest(command)) {
                Checks.due("README.md: the exit code of " + command, exitCode(command), 0);
            }
        }
        Checks.due("blocks of commands in README.md", found, 4);
    }

    private static boolean hasItsTest(String command) {
        // the tests under ../shared are not this project's own: one that has gone is no fault of README.md
        Matcher shared = Pattern.compile("\\.\\./shared/tests/\\w+\\.java").matcher(command);
        return !shared.find() || Files.isReadable(README.resolveSibling(shared.group()));
    }

    private static int exitCode(String command) throws Exception {
        Process process = new ProcessBuilder("bash", "-c", command).directory(README.getParent().toFile())
                .redirectErrorStream(true).start();
        String printed = new String(process.getInputStream().readAllBytes());
        int code = process.waitFor();
        if (code != 0) {
            System.out.println(printed);
        }
        return code;
    }
}
