import java.io.IOException;
import java.lang.reflect.Method;
import java.lang.reflect.Modifier;
import java.net.URL;
import java.net.URLClassLoader;
import java.nio.file.DirectoryStream;
import java.nio.file.Files;
import java.nio.file.Path;
import java.util.ArrayList;
import java.util.List;
import java.util.regex.Matcher;
import java.util.regex.Pattern;
import javax.tools.ToolProvider;

/** README.md: its Java answers what stands behind each //, its commands work, and it names all that there is to name. */
public final class ReadmeTest {
    private static final Path ROOT = Path.of("").toAbsolutePath();
    private static final Pattern BLOCK = Pattern.compile("(?ms)^ *```(\\w+)\\n(.*?)^ *```$");
    private static final Pattern CALL = Pattern.compile("(.*);\\s*// (-?\\d+|[A-Z]+)\\b.*");

    public static void main(String[] args) throws Exception {
        String readme = Files.readString(ROOT.resolve("README.md"));
        callsAnswer(blocks(readme, "java"));
        commandsWork(blocks(readme, "sh"));
        methodsAreNamed(readme);
        constantsAreTold(readme);
        testsAreNamed(readme);
        Checks.end();
    }

    private static List<String> blocks(String readme, String sort) {
        List<String> found = new ArrayList<>();
        Matcher m = BLOCK.matcher(readme);
        while (m.find()) {
            if (m.group(1).equals(sort)) {
                found.add(m.group(2));
            }
        }
        return found;
    }

    /** All blocks are one program, whose answers are compared with those that stand there. */
    private static void callsAnswer(List<String> blocks) throws Exception {
        List<String> calls = new ArrayList<>();
        List<String> wants = new ArrayList<>();
        StringBuilder program = new StringBuilder();
        for (String line : String.join("", blocks).split("\n")) {
            Matcher m = CALL.matcher(line);
            if (m.matches()) {
                program.append("answers.add((long) ").append(m.group(1)).append(");\n");
                calls.add(m.group(1));
                wants.add(m.group(2));
            } else {
                Checks.truth("no answer is told in " + line, !line.contains("//"));
                program.append(line).append("\n");
            }
        }
        Checks.truth("README.md tells calls", calls.size() > 60);
        List<?> answers = answers(program.toString());
        Checks.due("calls answered", answers.size(), calls.size());
        for (int i = 0; i < Math.min(answers.size(), calls.size()); i++) {
            Checks.due("README.md: " + calls.get(i), answers.get(i).toString(), number(wants.get(i)));
        }
    }

    private static String number(String want) throws Exception {
        return Character.isLetter(want.charAt(0)) ? RowPatterns.class.getField(want).get(null).toString() : want;
    }

    private static List<?> answers(String program) throws Exception {
        Path home = Files.createTempDirectory("readme");
        Path file = home.resolve("ReadmeLines.java");
        Files.writeString(file, "public final class ReadmeLines {\n"
            + "public static java.util.List<Long> answers() {\n"
            + "java.util.List<Long> answers = new java.util.ArrayList<>();\n" + program + "return answers;\n}\n}\n");
        int faults = ToolProvider.getSystemJavaCompiler().run(null, null, null,
            "-cp", System.getProperty("java.class.path"), "-d", home.toString(), file.toString());
        Checks.due("README.md's Java compiles", faults, 0);
        List<?> answers = List.of();
        if (faults == 0) {
            URL[] places = {home.toUri().toURL()};
            try (URLClassLoader loader = new URLClassLoader(places, ReadmeTest.class.getClassLoader())) {
                answers = (List<?>) loader.loadClass("ReadmeLines").getMethod("answers").invoke(null);
            }
        }
        empty(home);
        return answers;
    }

    /** Each block is run by itself, in a new directory with the sources beside ../shared; .ci/run is what runs this. */
    private static void commandsWork(List<String> blocks) throws Exception {
        Checks.truth("README.md tells commands", blocks.size() >= 4);
        for (String block : blocks) {
            if (block.strip().equals(".ci/run")) {
                Checks.truth(".ci/run can be run", Files.isExecutable(ROOT.resolve(".ci/run")));
                continue;
            }
            Path home = Files.createTempDirectory("readme");
            Path main = Files.createDirectory(home.resolve("main"));
            Files.createSymbolicLink(home.resolve("shared"), ROOT.resolveSibling("shared"));
            Files.createSymbolicLink(main.resolve("src"), ROOT.resolve("src"));
            Process process = new ProcessBuilder("sh", "-e", "-c", block).directory(main.toFile())
                .redirectErrorStream(true).start();
            String told = new String(process.getInputStream().readAllBytes());
            Checks.due("README.md: " + block + told, process.waitFor(), 0);
            empty(home);
        }
    }

    private static void methodsAreNamed(String readme) {
        for (Method m : RowPatterns.class.getDeclaredMethods()) {
            if (Modifier.isPublic(m.getModifiers())) {
                boolean named = Pattern.compile("\\b" + m.getName() + "\\(|`" + m.getName() + "`").matcher(readme).find();
                Checks.truth("README.md names " + m.getName(), named);
            }
        }
    }

    private static void constantsAreTold(String readme) {
        String[] told = {"| -1 | `NONE` |", "| -2 | `BAD` |", "| -3 | `STATE` |", "| -4 | `FULL` |", "| -7 | `MUCH` |",
            "| `Long.MIN_VALUE` | `NO` |"};
        for (String row : told) {
            Checks.truth("README.md tells " + row, readme.contains(row));
        }
    }

    private static void testsAreNamed(String readme) throws IOException {
        try (DirectoryStream<Path> tests = Files.newDirectoryStream(ROOT.resolve("src/test/java"), "*Test.java")) {
            for (Path test : tests) {
                String name = test.getFileName().toString().replace(".java", "");
                Checks.truth("README.md names " + name, readme.contains("`" + name + "`"));
            }
        }
    }

    /** Takes a directory away with what is in it; of a link, the link alone. */
    private static void empty(Path home) throws IOException {
        if (Files.isDirectory(home) && !Files.isSymbolicLink(home)) {
            try (DirectoryStream<Path> inside = Files.newDirectoryStream(home)) {
                for (Path path : inside) {
                    empty(path);
                }
            }
        }
        Files.delete(home);
    }
}
