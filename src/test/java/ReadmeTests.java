import java.io.IOException;
import java.lang.reflect.Field;
import java.lang.reflect.Method;
import java.lang.reflect.Modifier;
import java.net.URL;
import java.net.URLClassLoader;
import java.nio.charset.StandardCharsets;
import java.nio.file.Files;
import java.nio.file.Path;
import java.nio.file.StandardCopyOption;
import java.util.ArrayList;
import java.util.List;
import java.util.regex.Matcher;
import java.util.regex.Pattern;
import java.util.stream.Collectors;
import java.util.stream.Stream;
import javax.tools.JavaCompiler;
import javax.tools.ToolProvider;

/** What README.md says: its example, its table of calls, and its command for the tests. */
public final class ReadmeTests {
    private static final Pattern EXAMPLE = Pattern.compile("(?s)\n```java\n(.*?)\n```\n");
    private static final Pattern COMMAND = Pattern.compile("(?s)\n## Tests\n.*?\n```\n(.*?)\n```\n");
    private static final Pattern VARIABLE = Pattern.compile("\\w+ (\\w+) = .*");
    private static final Pattern ANSWER = Pattern.compile("(throws )?(-?\\d+|true|false|'.'|[\\w.]+)(: .*)?");

    private static int checks = 0;
    private static int wrong = 0;

    public static void main(String[] args) throws Exception {
        String text = Files.readString(Path.of("README.md"), StandardCharsets.UTF_8);
        Path room = Files.createTempDirectory("readme");
        try {
            theExampleAnswersWhatItSays(text, room);
            everyNameOfTheFaceIsTold(text);
            theCommandRunsEveryTest(text, room);
            noTestLiesWhereItIsNotRun();
        } finally {
            delete(room);
        }
        System.out.println("ReadmeTests: " + checks + " checks, " + wrong + " wrong");
        if (wrong != 0) {
            System.exit(1);
        }
    }

    private static void fault(boolean isFault, String what) {
        checks++;
        if (isFault) {
            wrong++;
            System.out.println(what);
        }
    }

    private static void delete(Path folder) throws IOException {
        List<Path> paths;
        try (Stream<Path> walk = Files.walk(folder)) {
            paths = walk.collect(Collectors.toList());
        }
        for (int index = paths.size() - 1; index >= 0; index--) {
            Files.delete(paths.get(index));
        }
    }

    // ---- the example

    /** The example as it stands in README.md is made a program; each answer that a comment tells is a check in it. */
    private static void theExampleAnswersWhatItSays(String text, Path room) throws Exception {
        Matcher example = EXAMPLE.matcher(text);
        int examples = 0;
        while (example.find()) {
            examples++;
            String name = "Example" + examples;
            Path source = room.resolve(name + ".java");
            Files.writeString(source, program(name, example.group(1)), StandardCharsets.UTF_8);
            runExample(name, source, room);
        }
        fault(examples == 0, "README.md has no example");
    }

    private static String program(String name, String example) {
        StringBuilder code = new StringBuilder();
        code.append("public final class ").append(name).append(" {\n");
        code.append("    public interface Call { Object run(); }\n");
        code.append("    public static int answers = 0;\n");
        code.append("    public static String wrong = \"\";\n");
        code.append("    static void due(String line, Call call, Object want) {\n");
        code.append("        Object got;\n");
        code.append("        try { got = call.run(); }\n");
        code.append("        catch (RuntimeException e) { got = \"throws \" + e.getClass().getSimpleName(); }\n");
        code.append("        answers++;\n");
        code.append("        if (!got.equals(want)) { wrong += line + \" answered \" + got + \"\\n\"; }\n");
        code.append("    }\n");
        code.append("    public static void run() {\n");
        int answers = 0;
        for (String line : example.split("\n")) {
            int comment = line.indexOf("//");
            boolean isAnswered = comment > 0 && !line.substring(0, comment).isBlank();
            code.append(isAnswered ? checked(line, comment) : line).append('\n');
            answers += isAnswered ? 1 : 0;
        }
        fault(answers == 0, "the example tells no answer");
        return code.append("    }\n}\n").toString();
    }

    private static String checked(String line, int comment) {
        String statements = line.substring(0, comment).trim();
        int before = statements.lastIndexOf(';', statements.length() - 2) + 1;
        String last = statements.substring(before, statements.length() - 1).trim();
        Matcher answer = ANSWER.matcher(line.substring(comment + 2).trim());
        boolean isTold = statements.endsWith(";") && answer.matches();
        fault(!isTold, "README.md, no answer is told by: " + line);
        if (!isTold) {
            return line;
        }
        String want = answer.group(1) == null ? answer.group(2) : "\"" + answer.group(1) + answer.group(2) + "\"";
        String quoted = '"' + line.trim().replace("\\", "\\\\").replace("\"", "\\\"") + '"';
        Matcher variable = VARIABLE.matcher(last);
        if (variable.matches()) {
            return statements + " due(" + quoted + ", () -> " + variable.group(1) + ", " + want + ");";
        }
        return statements.substring(0, before) + " due(" + quoted + ", () -> " + last + ", " + want + ");";
    }

    private static void runExample(String name, Path source, Path room) throws Exception {
        JavaCompiler compiler = ToolProvider.getSystemJavaCompiler();
        fault(compiler == null, "there is no compiler for the example");
        if (compiler == null) {
            return;
        }
        int code = compiler.run(null, null, null, "-cp", System.getProperty("java.class.path"), "-d", room.toString(),
                source.toString());
        fault(code != 0, "the example of README.md does not compile");
        if (code != 0) {
            return;
        }
        try (URLClassLoader loader = new URLClassLoader(new URL[] {room.toUri().toURL()})) {
            Class<?> program = loader.loadClass(name);
            program.getMethod("run").invoke(null);
            int answers = program.getField("answers").getInt(null);
            String differing = (String) program.getField("wrong").get(null);
            checks += answers;
            fault(answers == 0, "no answer of the example was looked at");
            fault(!differing.isEmpty(), "README.md's example: " + differing);
        }
    }

    private static void everyNameOfTheFaceIsTold(String text) {
        for (Method method : TagRoot.class.getDeclaredMethods()) {
            fault(Modifier.isPublic(method.getModifiers()) && !text.contains("`" + method.getName() + "`"),
                    "README.md does not tell of " + method.getName());
        }
        for (Field field : TagRoot.class.getDeclaredFields()) {
            fault(Modifier.isPublic(field.getModifiers()) && !text.contains("`" + field.getName() + "`"),
                    "README.md does not tell of " + field.getName());
        }
    }

    // ---- the command

    /** The command is run in small projects of its own, since here it would run this very test again. */
    private static void theCommandRunsEveryTest(String text, Path room) throws Exception {
        Matcher matcher = COMMAND.matcher(text);
        boolean isNamed = matcher.find();
        fault(!isNamed, "README.md names no command for the tests");
        if (!isNamed) {
            return;
        }
        String command = matcher.group(1);
        fault(!Files.isExecutable(Path.of(".ci/run")), ".ci/run is not executable");
        fault(!command.equals("bash .ci/run"), "the command is not the one that CI runs: " + command);
        List<Small> all = new ArrayList<>();
        all.add(new Small(room, "passes", command, true));
        all.add(new Small(room, "own", command, false).with("main/src/test/java/Own2.java", test("Own2", 1)));
        all.add(new Small(room, "shared", command, false).with("shared/tests/Shared1.java", test("Shared1", 1)));
        all.add(new Small(room, "deep", command, false).with("shared/tests/deep/Deep.java", test("Deep", 1)));
        all.add(new Small(room, "thrown", command, false).with("main/src/test/java/Own1.java",
                test("Own1", 0).replace("System.exit", "Integer.parseInt(\"x\" + ")));
        all.add(new Small(room, "broken", command, false).with("main/src/test/java/Own1.java", "no Java"));
        all.add(new Small(room, "program", command, false).with("main/src/main/java/TagRoot.java", "no Java"));
        all.add(new Small(room, "without", command, false).without("shared/tests"));
        for (Small small : all) {
            small.start();
        }
        for (Small small : all) {
            small.finish();
        }
    }

    private static String test(String name, int code) {
        return "public class " + name + " { public static void main(String[] args) { new TagRoot();"
                + " System.out.println(\"" + name + " was run\"); System.exit(" + code + "); } }";
    }

    /** A small project beside its shared folder, with two tests of its own and two shared ones. */
    private static final class Small {
        private final Path folder;
        private final String command;
        private final boolean isToPass;
        private Process process;

        Small(Path room, String name, String command, boolean isToPass) throws IOException {
            this.folder = room.resolve(name);
            this.command = command;
            this.isToPass = isToPass;
            with("main/src/main/java/TagRoot.java", "public final class TagRoot { }");
            with("main/src/test/java/Own1.java", test("Own1", 0));
            with("main/src/test/java/Own2.java", test("Own2", 0));
            with("shared/tests/Shared1.java", test("Shared1", 0));
            with("shared/tests/Shared2.java", test("Shared2", 0));
            Path script = folder.resolve("main/.ci/run");
            Files.createDirectories(script.getParent());
            Files.copy(Path.of(".ci/run"), script, StandardCopyOption.COPY_ATTRIBUTES);
        }

        Small with(String path, String text) throws IOException {
            Files.createDirectories(folder.resolve(path).getParent());
            Files.writeString(folder.resolve(path), text, StandardCharsets.UTF_8);
            return this;
        }

        Small without(String path) throws IOException {
            delete(folder.resolve(path));
            return this;
        }

        void start() throws IOException {
            process = new ProcessBuilder("bash", "-c", command).directory(folder.resolve("main").toFile())
                    .redirectErrorStream(true).redirectOutput(folder.resolve("said").toFile()).start();
        }

        void finish() throws IOException, InterruptedException {
            int code = process.waitFor();
            String said = Files.readString(folder.resolve("said"), StandardCharsets.UTF_8);
            fault((code == 0) != isToPass, command + " ended with " + code + " in " + folder + ":\n" + said);
            for (String name : List.of("Own1", "Own2", "Shared1", "Shared2")) {
                fault(isToPass && !said.contains(name + " was run"), command + " has not run " + name + ":\n" + said);
            }
        }
    }

    private static void noTestLiesWhereItIsNotRun() throws IOException {
        try (Stream<Path> walk = Files.walk(Path.of("src"))) {
            for (Path path : walk.collect(Collectors.toList())) {
                boolean isProgram = path.equals(Path.of("src/main/java/TagRoot.java"));
                fault(path.toString().endsWith(".java") && !isProgram && !path.startsWith("src/test/java"),
                        path + " is not run");
            }
        }
    }
}
