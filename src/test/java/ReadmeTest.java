import java.io.ByteArrayOutputStream;
import java.io.IOException;
import java.io.PrintStream;
import java.net.URL;
import java.net.URLClassLoader;
import java.nio.file.Files;
import java.nio.file.Path;
import java.util.ArrayList;
import java.util.List;
import java.util.regex.Matcher;
import java.util.regex.Pattern;
import javax.tools.ToolProvider;

/** README.md's program is compiled and run: each line that it prints is the number that its comment tells. */
public final class ReadmeTest {
    private static int wrong = 0;

    private static void fault(String what) {
        wrong++;
        System.out.println("README: " + what);
    }

    private static List<String> matches(String pattern, String text) {
        List<String> found = new ArrayList<>();
        Matcher m = Pattern.compile(pattern).matcher(text);
        while (m.find()) found.add(m.group(1));
        return found;
    }

    private static String printed(Class<?> program) throws ReflectiveOperationException {
        PrintStream screen = System.out;
        ByteArrayOutputStream said = new ByteArrayOutputStream();
        System.setOut(new PrintStream(said));
        program.getMethod("main", String[].class).invoke(null, (Object) new String[0]);
        System.setOut(screen);
        return said.toString();
    }

    private static void runProgram(String program) throws IOException, ReflectiveOperationException {
        Path folder = Files.createTempDirectory("readme");
        Path file = Files.writeString(folder.resolve("Yours.java"), program);
        Path made = folder.resolve("Yours.class");
        int code = ToolProvider.getSystemJavaCompiler().run(null, null, null, "-cp", System.getProperty("java.class.path"),
            "-d", folder.toString(), file.toString());
        if (code != 0) {
            fault("its program does not compile");
        } else {
            try (URLClassLoader loader = new URLClassLoader(new URL[] {folder.toUri().toURL()})) {
                List<String> got = matches("(-?\\d+)", printed(loader.loadClass("Yours")));
                List<String> due = matches("println.*// (-?\\d+):", program);
                if (due.size() < 5 || !got.equals(due)) fault("its program prints " + got + ", its comments tell " + due);
            }
        }
        Files.deleteIfExists(made);
        Files.deleteIfExists(file);
        Files.deleteIfExists(folder);
    }

    private static void namesAllCalls(String readme) throws IOException {
        for (String call : matches("public int (\\w+)\\(", Files.readString(Path.of("../shared/DOC.md")))) {
            if (!readme.contains("`" + call + "(") && !readme.contains("`" + call + "`")) fault("nothing of the call " + call);
        }
    }

    private static void namesAllTests(String readme) throws IOException {
        try (var files = Files.list(Path.of("src/test/java"))) {
            for (Path file : files.toList()) {
                String name = file.getFileName().toString().replace(".java", "");
                if (!readme.contains("`" + name)) fault("nothing of the test " + name);
            }
        }
    }

    public static void main(String[] args) throws IOException, ReflectiveOperationException {
        String readme = Files.readString(Path.of("README.md"));
        List<String> programs = matches("(?s)```java\n(.*?)```", readme);
        if (programs.size() != 1) fault(programs.size() + " programs");
        for (String program : programs) runProgram(program);
        namesAllCalls(readme);
        namesAllTests(readme);
        System.out.println("ReadmeTest: " + programs.size() + " program, " + wrong + " faults");
        if (wrong != 0) System.exit(1);
    }
}
