import java.io.ByteArrayOutputStream;
import java.io.IOException;
import java.io.PrintStream;
import java.lang.reflect.Method;
import java.lang.reflect.Modifier;
import java.net.URL;
import java.net.URLClassLoader;
import java.nio.file.DirectoryStream;
import java.nio.file.Files;
import java.nio.file.Path;
import java.util.ArrayList;
import java.util.List;
import java.util.regex.Matcher;
import java.util.regex.Pattern;
import javax.tools.ToolProvider;

/** What README.md shows of the class holds: its calls are compiled and run, its commands too. Runs in the project's folder. */
public final class ReadmeTest extends Check {
    private static final Path README = Path.of("README.md");
    private static final Path TESTS = Path.of("src/test/java");
    private static final String ALL_TESTS = ".ci/run";
    private static final Pattern BLOCK = Pattern.compile("(?ms)^```(java|text|sh)\n(.*?)^```$");
    private static final Pattern SHOWN_CALL = Pattern.compile("(x\\.\\w+\\(.*\\));\\s*// (-?\\d+|[A-Z]+)\\b.*");
    private static final String SHOWN = "ReadmeShown";

    private static final StringBuilder program = new StringBuilder();
    private static final List<String> calls = new ArrayList<>();
    private static final StringBuilder printed = new StringBuilder();
    private static final List<String> commands = new ArrayList<>();

    public static void main(String[] args) throws Exception {
        String readme = Files.readString(README);
        readBlocks(readme);
        runProgram();
        runCommands();
        namesAll(readme);
        finish("ReadmeTest");
    }

    private static void readBlocks(String readme) {
        Matcher m = BLOCK.matcher(readme);
        while (m.find()) {
            if (m.group(1).equals("java")) readCalls(m.group(2));
            else if (m.group(1).equals("text")) printed.append(m.group(2));
            else commands.add(m.group(2));
        }
        holds("README.md shows calls", calls.size() > 0);
        holds("README.md shows what is printed", printed.length() > 0);
        holds("README.md tells to run " + ALL_TESTS, commands.contains(ALL_TESTS + "\n"));
    }

    /** A call with an answer behind it is asked for both; all other lines stay as they are. */
    private static void readCalls(String block) {
        for (String line : block.split("\n")) {
            Matcher m = SHOWN_CALL.matcher(line);
            boolean shown = m.matches();
            holds("README.md has an answer that can be read in: " + line, shown || !line.startsWith("x."));
            if (!shown) {
                program.append(line).append('\n');
                continue;
            }
            calls.add(m.group(1));
            String due = m.group(2).matches("[A-Z]+") ? "PrettyShapes." + m.group(2) : m.group(2);
            program.append("seen.add((long) ").append(m.group(1)).append("); seen.add((long) (").append(due).append("));\n");
        }
    }

    private static void runProgram() throws Exception {
        Path folder = Files.createTempDirectory("readme");
        Path source = folder.resolve(SHOWN + ".java");
        Files.writeString(source, "public final class " + SHOWN + " {\npublic static void run(java.util.List<Long> seen) {\n"
            + program + "}\n}\n");
        String classes = System.getProperty("java.class.path");
        int left = ToolProvider.getSystemJavaCompiler().run(null, null, null, "-cp", classes, "-d", folder.toString(), source.toString());
        holds("what README.md shows compiles", left == 0);
        if (left == 0) compare(folder);
        Files.deleteIfExists(folder.resolve(SHOWN + ".class"));
        Files.deleteIfExists(source);
        Files.deleteIfExists(folder);
    }

    private static void compare(Path folder) throws Exception {
        List<Long> seen = new ArrayList<>();
        ByteArrayOutputStream out = new ByteArrayOutputStream();
        PrintStream before = System.out;
        System.setOut(new PrintStream(out, true));
        try (URLClassLoader loader = new URLClassLoader(new URL[] {folder.toUri().toURL()}, ReadmeTest.class.getClassLoader())) {
            loader.loadClass(SHOWN).getMethod("run", List.class).invoke(null, seen);
        } finally {
            System.setOut(before);
        }
        for (int c = 0; c < calls.size(); c++) {
            long got = seen.get(2 * c), due = seen.get(2 * c + 1);
            holds(calls.get(c) + " answers " + due + " as README.md shows (it is " + got + ")", got == due);
        }
        String got = out.toString().replace(System.lineSeparator(), "\n");
        holds("README.md shows what is printed, which is\n" + got, got.contentEquals(printed));
    }

    private static void runCommands() throws IOException, InterruptedException {
        holds(ALL_TESTS + " can be run", Files.isExecutable(Path.of(ALL_TESTS)));
        for (String block : commands) {
            // That one runs this test, and so would never end.
            if (block.contains(ALL_TESTS)) continue;
            Process p = new ProcessBuilder("sh", "-e", "-c", block).redirectErrorStream(true).start();
            p.getOutputStream().close();
            String said = new String(p.getInputStream().readAllBytes());
            holds("these commands of README.md end well:\n" + block + said, p.waitFor() == 0);
        }
    }

    private static void namesAll(String readme) throws IOException {
        for (Method m : PrettyShapes.class.getDeclaredMethods()) {
            if (Modifier.isPublic(m.getModifiers())) holds("README.md names " + m.getName(), readme.contains("| `" + m.getName() + "("));
        }
        try (DirectoryStream<Path> tests = Files.newDirectoryStream(TESTS, "*Test.java")) {
            for (Path test : tests) holds("README.md names " + test, readme.contains("- `" + test + "`") || readme.contains(", `" + test + "`"));
        }
        Matcher named = Pattern.compile("`((?:src|\\.ci)/[^`]*)`").matcher(readme);
        while (named.find()) holds("README.md names " + named.group(1) + ", which is there", Files.exists(Path.of(named.group(1))));
    }
}
