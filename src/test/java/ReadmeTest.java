import java.io.ByteArrayOutputStream;
import java.io.IOException;
import java.io.PrintStream;
import java.net.URL;
import java.net.URLClassLoader;
import java.nio.file.Files;
import java.nio.file.Path;
import java.util.ArrayList;
import java.util.List;
import java.util.Set;
import java.util.TreeSet;
import java.util.regex.Matcher;
import java.util.regex.Pattern;
import java.util.stream.Collectors;
import javax.tools.ToolProvider;

/** What README.md shows of calls and answers is what the class answers; its code is compiled as it stands there. */
public final class ReadmeTest {
    private static final Check CHECK = new Check("ReadmeTest");
    private static final Pattern CODE = Pattern.compile("```(\\w+)\n(.*?)```", Pattern.DOTALL);
    private static final Pattern CALL = Pattern.compile("(x\\.(\\w+)\\(.*?\\)); *// (-?\\d+)\\b.*");
    private static final Path WORK = Path.of("build", "readme");

    /** A call as it is shown, the method's name, and the answer that is shown. */
    private record Shown(String call, String method, long answer) {
    }

    private ReadmeTest() {
    }

    public static void main(String[] args) throws Exception {
        String readme = Files.readString(Path.of("README.md"));
        List<Shown> shown = new ArrayList<>();
        StringBuilder calls = new StringBuilder();
        String printed = "";
        Matcher block = CODE.matcher(readme);
        while (block.find()) {
            boolean isProgram = block.group(2).startsWith("public final class Mine");
            if (isProgram) {
                printed = output(block.group(2));
            } else if (block.group(1).equals("text")) {
                CHECK.holds("the program prints '" + printed + "'", block.group(2).equals(printed));
            } else {
                collect(block.group(2), calls, shown);
            }
        }
        CHECK.holds("the program is run", !printed.isEmpty());
        answers(shown, answered(calls.toString()));
        everyMethodIsShown(shown, args.length > 0 ? args[0] : "../shared");
        everyTestIsNamed(readme);
        CHECK.close();
    }

    /** A line with an answer puts it on the list of answers; a call of which no answer is told has no place here. */
    private static void collect(String block, StringBuilder calls, List<Shown> shown) {
        boolean isLoop = false;
        for (String line : block.split("\n")) {
            Matcher call = CALL.matcher(line);
            if (call.matches()) {
                shown.add(new Shown(call.group(1), call.group(2), Long.parseLong(call.group(3))));
                calls.append("answers.add((long) ").append(call.group(1)).append(");\n");
            } else {
                CHECK.holds("'" + line + "' tells the answer", isLoop || !line.startsWith("x."));
                calls.append(line).append('\n');
            }
            isLoop = line.startsWith("for ");
        }
    }

    private static List<?> answered(String calls) throws Exception {
        String source = "public final class ReadmeCalls {\n"
                + "public static java.util.List<Long> answers() {\n"
                + "java.util.List<Long> answers = new java.util.ArrayList<>();\n" + calls + "return answers;\n}\n}\n";
        try (URLClassLoader loader = compiled("ReadmeCalls", source)) {
            return (List<?>) loader.loadClass("ReadmeCalls").getMethod("answers").invoke(null);
        }
    }

    private static String output(String program) throws Exception {
        ByteArrayOutputStream bytes = new ByteArrayOutputStream();
        PrintStream console = System.out;
        try (URLClassLoader loader = compiled("Mine", program)) {
            System.setOut(new PrintStream(bytes, true));
            loader.loadClass("Mine").getMethod("main", String[].class).invoke(null, (Object) new String[0]);
        } finally {
            System.setOut(console);
        }
        return bytes.toString().replace("\r\n", "\n");
    }

    private static URLClassLoader compiled(String name, String source) throws IOException {
        Files.createDirectories(WORK);
        Path file = WORK.resolve(name + ".java");
        Files.writeString(file, source);
        int exit = ToolProvider.getSystemJavaCompiler().run(null, null, null,
                "-cp", System.getProperty("java.class.path"), "-d", WORK.toString(), file.toString());
        CHECK.due("compiling " + file, exit, 0);
        return new URLClassLoader(new URL[] {WORK.toUri().toURL()});
    }

    private static void answers(List<Shown> shown, List<?> answered) {
        CHECK.due("answers", answered.size(), shown.size());
        for (int i = 0; i < Math.min(shown.size(), answered.size()); i++) {
            CHECK.due(shown.get(i).call() + ", call " + (i + 1), (Long) answered.get(i), shown.get(i).answer());
        }
    }

    private static void everyMethodIsShown(List<Shown> shown, String shared) throws IOException {
        Set<String> names = shown.stream().map(Shown::method).collect(Collectors.toCollection(TreeSet::new));
        for (Face.Method method : Face.methods(shared)) {
            CHECK.holds(method.name() + " is shown", names.contains(method.name()));
        }
    }

    private static void everyTestIsNamed(String readme) throws IOException {
        try (var files = Files.list(Path.of("src", "test", "java"))) {
            for (Path file : (Iterable<Path>) files::iterator) {
                String name = file.getFileName().toString().replace(".java", "");
                CHECK.holds(name + " is told of", !name.endsWith("Test") || readme.contains("| " + name + " |"));
            }
        }
    }
}
