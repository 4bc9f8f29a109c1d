import java.io.IOException;
import java.lang.reflect.InvocationTargetException;
import java.lang.reflect.Method;
import java.lang.reflect.Modifier;
import java.net.URL;
import java.net.URLClassLoader;
import java.nio.file.Files;
import java.nio.file.Path;
import java.util.ArrayList;
import java.util.List;
import java.util.Set;
import java.util.TreeSet;
import java.util.regex.Matcher;
import java.util.regex.Pattern;
import java.util.stream.Stream;
import javax.tools.JavaCompiler;
import javax.tools.ToolProvider;

/** What README.md says of the class's use and of its tests is so; it is run in the project's folder. */
public final class FineRowsReadme {
    /** A line of the example: perhaps a name for the answer, the call, and what it answers. */
    private static final Pattern CALL =
            Pattern.compile("(?:(int|long|boolean) (\\w+) = )?(rows\\.(\\w+)\\(.*\\));\\s+// (-?\\w+): .+");
    /** A row of the table of calls: name, parameters, and the answer if the call can't be. */
    private static final Pattern ROW = Pattern.compile("\\| `(\\w+)\\(([^)]*)\\)` \\| .+ \\| `([^`]+)` \\|");
    private static final Pattern TEST_NAME = Pattern.compile("`(FineRows\\w+)`");

    private static final Due due = new Due();

    public static void main(String[] args) throws Exception {
        String text = Files.readString(Path.of("README.md"));
        Path work = Files.createTempDirectory("readme");
        try {
            example(text, work);
            callsAndRefusals(text);
            commands(text, work);
            testNames(text);
        } finally {
            delete(work);
        }
        due.end();
    }

    private static List<String> blocks(String text, String language) {
        List<String> found = new ArrayList<>();
        Matcher matcher = Pattern.compile("```" + language + "\n(.*?)```", Pattern.DOTALL).matcher(text);
        while (matcher.find()) {
            found.add(matcher.group(1));
        }
        return found;
    }

    private static Set<String> faceNames() {
        Set<String> names = new TreeSet<>();
        for (Method method : FineRows.class.getDeclaredMethods()) {
            if (method.getModifiers() == Modifier.PUBLIC) {
                names.add(method.getName());
            }
        }
        return names;
    }

    /** The example compiles as it stands, each call answers what stands behind it, and no call is left out. */
    private static void example(String text, Path work) throws Exception {
        due.part("README, example");
        List<String> examples = blocks(text, "java");
        due.is("examples", examples.size(), 1);
        List<String> wanted = new ArrayList<>();
        Set<String> shown = new TreeSet<>();
        StringBuilder plain = new StringBuilder();
        StringBuilder asked = new StringBuilder();
        for (String line : examples.get(0).split("\n")) {
            plain.append(line).append('\n');
            Matcher call = CALL.matcher(line);
            if (!call.matches()) {
                due.is("a call without its answer: " + line, line.contains("rows."), false);
                asked.append(line).append('\n');
                continue;
            }
            wanted.add(line);
            shown.add(call.group(4));
            boolean isNamed = call.group(2) != null;
            asked.append(isNamed ? line + "\n" : "");
            asked.append("answers.add(String.valueOf(" + call.group(isNamed ? 2 : 3) + "));\n");
        }
        due.is("calls shown: " + shown, shown.equals(faceNames()), true);
        compareAnswers(wanted, answersOf(plain.toString(), asked.toString(), work));
    }

    private static List<?> answersOf(String plain, String asked, Path work) throws Exception {
        Path source = work.resolve("Example.java");
        Files.writeString(source, "public class Example {\n"
                + "static void plain() {\n" + plain + "}\n"
                + "public static java.util.List<String> answers() {\n"
                + "java.util.List<String> answers = new java.util.ArrayList<>();\n" + asked
                + "return answers;\n}\n}\n");
        JavaCompiler compiler = ToolProvider.getSystemJavaCompiler();
        int exit = compiler.run(null, null, null, "--release", "17", "-d", work.toString(),
                source.toString(), "src/main/java/FineRows.java");
        due.is("compiling the example", exit, 0);
        if (exit != 0) {
            return List.of();
        }
        URL[] path = {work.toUri().toURL()};
        try (URLClassLoader loader = new URLClassLoader(path, FineRowsReadme.class.getClassLoader())) {
            return (List<?>) loader.loadClass("Example").getMethod("answers").invoke(null);
        }
    }

    private static void compareAnswers(List<String> lines, List<?> answers) {
        due.is("answers", answers.size(), lines.size());
        for (int i = 0; i < Math.min(answers.size(), lines.size()); i++) {
            Matcher call = CALL.matcher(lines.get(i));
            if (call.matches() && !call.group(5).equals(answers.get(i))) {
                due.fail(lines.get(i) + " (answered " + answers.get(i) + ")");
            }
        }
    }

    /** Each call of the face has one row, whose last column is what the call answers to what can't be. */
    private static void callsAndRefusals(String text) throws Exception {
        due.part("README, the calls");
        Set<String> told = new TreeSet<>();
        int rows = 0;
        Matcher row = ROW.matcher(text);
        while (row.find()) {
            rows++;
            told.add(row.group(1));
            refusal(row.group(1), row.group(2).split(", ").length, row.group(3));
        }
        due.is("rows", rows, told.size());
        due.is("calls told: " + told, told.equals(faceNames()), true);
    }

    private static void refusal(String name, int parameters, String want) throws Exception {
        for (Method method : FineRows.class.getMethods()) {
            if (method.getDeclaringClass() == FineRows.class && method.getName().equals(name)) {
                due.is("parameters of " + name, method.getParameterCount(), parameters);
                String got = answerToWrongOnes(method);
                if (!got.equals(want.replace("NONE", String.valueOf(FineRows.NONE)))) {
                    due.fail(name + " answers " + got + " to what can't be, README.md says " + want);
                }
            }
        }
    }

    /** -1 can't be for any parameter but the day of owes, which stands beside a person that can't be. */
    private static String answerToWrongOnes(Method method) throws IllegalAccessException {
        Class<?>[] types = method.getParameterTypes();
        Object[] arguments = new Object[types.length];
        for (int i = 0; i < types.length; i++) {
            arguments[i] = types[i] == long.class ? (Object) (-1L) : (Object) (-1);
        }
        try {
            return String.valueOf(method.invoke(new FineRows(), arguments));
        } catch (InvocationTargetException e) {
            return "throws " + e.getCause();
        }
    }

    /** The first block runs all tests, this one among them, and is only looked at; the second one is run. */
    private static void commands(String text, Path work) throws IOException, InterruptedException {
        due.part("README, commands");
        List<String> commands = blocks(text, "sh");
        due.is("blocks of commands", commands.size(), 2);
        due.is("the first one can be run", Files.isExecutable(Path.of(commands.get(0).trim())), true);
        String elsewhere = commands.get(1).replaceAll("\\bout\\b", work.resolve("out").toString());
        Process process = new ProcessBuilder("sh", "-e", "-c", elsewhere)
                .redirectError(ProcessBuilder.Redirect.INHERIT).start();
        String printed = new String(process.getInputStream().readAllBytes());
        due.is("the second one's exit code", process.waitFor(), 0);
        if (!printed.equals("all answers are as due\n")) {
            due.fail("the second one printed " + printed);
        }
        due.is("git keeps no out", Files.readString(Path.of(".gitignore")).contains("out/\n"), true);
    }

    private static void testNames(String text) throws IOException {
        due.part("README, tests");
        Set<String> told = new TreeSet<>();
        Matcher name = TEST_NAME.matcher(text.substring(text.indexOf("## How to run the tests")));
        while (name.find()) {
            told.add(name.group(1));
        }
        Set<String> there = new TreeSet<>();
        try (Stream<Path> files = Files.list(Path.of("src/test/java"))) {
            files.forEach(file -> there.add(file.getFileName().toString().replace(".java", "")));
        }
        due.is("tests told: " + told + ", there are: " + there, told.equals(there), true);
    }

    private static void delete(Path folder) throws IOException {
        List<Path> all;
        try (Stream<Path> files = Files.walk(folder)) {
            all = new ArrayList<>(files.toList());
        }
        for (int i = all.size() - 1; i >= 0; i--) {
            Files.delete(all.get(i));
        }
    }
}
