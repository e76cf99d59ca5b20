import java.io.IOException;
import java.lang.reflect.Method;
import java.lang.reflect.Modifier;
import java.net.URL;
import java.net.URLClassLoader;
import java.nio.file.Files;
import java.nio.file.Path;
import java.util.ArrayList;
import java.util.List;
import java.util.TreeSet;
import java.util.regex.Matcher;
import java.util.regex.Pattern;
import java.util.stream.Stream;
import javax.tools.ToolProvider;

/** README.md: that it says how to use the class and how to run its tests, and says it rightly. */
public final class ReadmeTest {
    private static final Check CHECK = new Check();
    private static final Path README = Path.of("README.md");
    private static final Path TESTS = Path.of("src/test/java");
    private static final Pattern ANSWERED =
            Pattern.compile("(x\\.\\w+\\(.*\\)); *// (true|false|-?\\d+|throws (\\w+))(:.*)?");
    private static final Pattern UNANSWERED =
            Pattern.compile("(FormulaPages x = |x\\.poke(Journal)?\\().*;( *//.*)?");

    public static void main(String[] args) throws Exception {
        CHECK.due("README.md is there", Files.isRegularFile(README), true);
        if (Files.isRegularFile(README)) {
            List<String> use = section("## Use");
            List<String> tests = section("## Tests");
            everyCallIsTold(use);
            everyTestIsTold(tests);
            commandsAreTold(use, tests);
            exampleAnswersAsTold(use);
        }
        CHECK.end();
    }

    /** The lines from a heading to the next one. */
    private static List<String> section(String heading) throws IOException {
        List<String> lines = new ArrayList<>();
        boolean inside = false;
        for (String line : Files.readAllLines(README)) {
            inside = line.startsWith("## ") ? line.equals(heading) : inside;
            if (inside) {
                lines.add(line);
            }
        }
        CHECK.due(heading + " has text", lines.size() > 1, true);
        return lines;
    }

    private static void everyCallIsTold(List<String> use) {
        CHECK.due("the constructor is told", rowsOf("new FormulaPages(", use).size(), 1);
        for (Method method : FormulaPages.class.getDeclaredMethods()) {
            if (Modifier.isPublic(method.getModifiers())) {
                List<String> rows = rowsOf(method.getName() + "(", use);
                CHECK.due(method.getName() + " is told", rows.size(), 1);
                CHECK.due(method.getName() + " throws", thrownIn(String.join("", rows)),
                        declaredBy(method));
            }
        }
    }

    private static List<String> rowsOf(String call, List<String> lines) {
        return lines.stream().filter(line -> line.startsWith("| `" + call)).toList();
    }

    private static List<String> thrownIn(String row) {
        Matcher found = Pattern.compile("\\w+Exception").matcher(row);
        return found.results().map(each -> each.group()).toList();
    }

    private static List<String> declaredBy(Method method) {
        return Stream.of(method.getExceptionTypes()).map(Class::getSimpleName).toList();
    }

    private static void everyTestIsTold(List<String> lines) throws IOException {
        TreeSet<String> told = new TreeSet<>();
        for (String line : lines) {
            if (line.startsWith("| ") && !line.startsWith("| test ")) {
                told.addAll(List.of(line.split(" *\\| *")[1].split(", ")));
            }
        }
        TreeSet<String> there = new TreeSet<>();
        try (Stream<Path> files = Files.list(TESTS)) {
            files.map(file -> file.getFileName().toString())
                    .filter(name -> name.endsWith("Test.java"))
                    .forEach(name -> there.add(name.replace(".java", "")));
        }
        CHECK.due("the tests that are told", told, there);
    }

    private static void commandsAreTold(List<String> use, List<String> tests) {
        CHECK.due("how to compile it", use.stream().anyMatch(
                line -> line.startsWith("    javac ") && line.contains(" src/main/java/")), true);
        CHECK.due("how to run all tests", tests.contains("    .ci/run"), true);
        CHECK.due(".ci/run can be run", Files.isExecutable(Path.of(".ci/run")), true);
    }

    /** The example is compiled as it stands, but that each answer is compared with the told one. */
    private static void exampleAnswersAsTold(List<String> use) throws Exception {
        int from = use.indexOf("```java");
        int to = use.indexOf("```");
        CHECK.due("there is an example", from >= 0 && to > from, true);
        if (from < 0 || to <= from) {
            return;
        }
        Path directory = Files.createTempDirectory("readme");
        Path source = directory.resolve("ReadmeExample.java");
        Files.writeString(source, exampleOf(use.subList(from + 1, to)));
        String path = System.getProperty("java.class.path");
        int code = ToolProvider.getSystemJavaCompiler().run(null, null, null, "-cp", path, "-d",
                directory.toString(), source.toString());
        CHECK.due("the example compiles", code, 0);
        if (code == 0) {
            dueAnswers(directory);
        }
        try (Stream<Path> files = Files.list(directory)) {
            for (Path file : files.toList()) {
                Files.delete(file);
            }
        }
        Files.delete(directory);
    }

    private static void dueAnswers(Path directory) throws Exception {
        try (URLClassLoader loader = new URLClassLoader(new URL[] {directory.toUri().toURL()})) {
            List<String[]> answers = new ArrayList<>();
            loader.loadClass("ReadmeExample").getMethod("run", List.class).invoke(null, answers);
            CHECK.due("the example has calls", answers.size() > 10, true);
            for (String[] answer : answers) {
                CHECK.due("the example's " + answer[0], answer[1], answer[2]);
            }
        }
    }

    private static String exampleOf(List<String> lines) {
        StringBuilder out = new StringBuilder("import java.util.List;\n"
                + "public final class ReadmeExample {\n"
                + "public static void run(List<String[]> answers) {\nString got;\n");
        for (String line : lines) {
            Matcher answered = ANSWERED.matcher(line);
            if (answered.matches()) {
                out.append(asked(answered));
            } else {
                CHECK.due("an answer is told: " + line,
                        line.isEmpty() || UNANSWERED.matcher(line).matches(), true);
                out.append(line).append('\n');
            }
        }
        return out.append("}\n}\n").toString();
    }

    private static String asked(Matcher answered) {
        String call = answered.group(1);
        String due = answered.group(3) == null ? answered.group(2) : answered.group(3);
        return "try { got = String.valueOf(" + call + "); }\n"
                + "catch (RuntimeException e) { got = e.getClass().getSimpleName(); }\n"
                + "answers.add(new String[] {\"" + call + "\", got, \"" + due + "\"});\n";
    }
}
