import java.io.File;
import java.lang.reflect.Method;
import java.lang.reflect.Modifier;
import java.net.URL;
import java.net.URLClassLoader;
import java.nio.file.Files;
import java.nio.file.Path;
import java.util.ArrayList;
import java.util.List;
import java.util.function.LongConsumer;
import java.util.regex.Matcher;
import java.util.regex.Pattern;
import javax.tools.ToolProvider;

/** What README.md shows compiles and answers as it says there, it shows every call, and its way of running the tests is CI's. */
public final class ReadmeTest extends Due {
    private static final Pattern BLOCK = Pattern.compile("(?s)```java\n(.*?)```");
    private static final Pattern ANSWER = Pattern.compile("(board\\.\\w+\\(.*\\)); +// (-?\\d+)(: .*)?");
    private static final List<Long> SHOWN = new ArrayList<>();
    private static final List<String> CALLS = new ArrayList<>();

    private ReadmeTest() { }

    public static void main(String[] args) throws Exception {
        String readme = Files.readString(Path.of("README.md"));
        about("README.md's use");
        String program = programOf(readme);
        List<Long> answers = answersOf(program);
        due("how many answers", answers.size(), SHOWN.size());
        for (int i = 0; i < answers.size(); i++) due(CALLS.get(i), answers.get(i), SHOWN.get(i));
        about("README.md shows every call");
        for (Method m : DepthBoard.class.getDeclaredMethods()) {
            if (Modifier.isPublic(m.getModifiers())) due(m.getName(), program.contains("board." + m.getName() + "(") ? 1 : 0, 1);
        }
        about("README.md's way of running the tests");
        due("it is .ci/run", readme.contains("\n    .ci/run\n") ? 1 : 0, 1);
        due("that can be run", Files.isExecutable(Path.of(".ci/run")) ? 1 : 0, 1);
        end("ReadmeTest");
    }

    /** The blocks one behind the other, with each call whose answer is shown told to a listener. */
    private static String programOf(String readme) {
        StringBuilder program = new StringBuilder("public final class Shown {\n"
            + "public static void run(java.util.function.LongConsumer told) {\n");
        Matcher block = BLOCK.matcher(readme);
        while (block.find()) {
            for (String line : block.group(1).split("\n")) program.append(toldLine(line)).append('\n');
        }
        return program.append("}\n}\n").toString();
    }

    private static String toldLine(String line) {
        Matcher answer = ANSWER.matcher(line);
        if (!answer.matches()) {
            due("an answer that can't be read: " + line, line.contains("//") ? 1 : 0, 0);
            return line;
        }
        CALLS.add(answer.group(1));
        SHOWN.add(Long.parseLong(answer.group(2)));
        return "told.accept(" + answer.group(1) + ");";
    }

    private static List<Long> answersOf(String program) throws Exception {
        List<Long> answers = new ArrayList<>();
        Path folder = Files.createTempDirectory("shown");
        Path source = folder.resolve("Shown.java");
        Path compiled = folder.resolve("Shown.class");
        Files.writeString(source, program);
        int code = ToolProvider.getSystemJavaCompiler().run(null, null, null,
            "-cp", System.getProperty("java.class.path"), "-d", folder.toString(), source.toString());
        due("javac", code, 0);
        if (code == 0) {
            try (URLClassLoader loader = new URLClassLoader(new URL[] {folder.toUri().toURL()})) {
                LongConsumer told = answers::add;
                loader.loadClass("Shown").getMethod("run", LongConsumer.class).invoke(null, told);
            }
        }
        for (Path left : List.of(source, compiled, folder)) new File(left.toString()).delete();
        return answers;
    }
}
