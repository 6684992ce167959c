import java.io.File;
import java.lang.reflect.Method;
import java.lang.reflect.Modifier;
import java.net.URL;
import java.net.URLClassLoader;
import java.nio.file.Files;
import java.nio.file.Path;
import java.util.ArrayList;
import java.util.Comparator;
import java.util.List;
import java.util.TreeSet;
import java.util.regex.Matcher;
import java.util.regex.Pattern;
import java.util.stream.Stream;
import javax.tools.ToolProvider;

/** README.md tells the truth: its calls answer what it says behind them, and its way to run the tests is .ci/run. */
public final class ReadmeTest {
    private static final Pattern ASKED = Pattern.compile("(d\\..*\\));\\s*// (\\S+?)(:.*)?");

    private final Checks c = new Checks();
    private final List<String> lines;

    private ReadmeTest(List<String> lines) {
        this.lines = lines;
    }

    public static void main(String[] args) throws Exception {
        ReadmeTest test = new ReadmeTest(Files.readAllLines(Path.of("README.md")));
        test.callsAnswerAsTold();
        test.everyCallIsNamed();
        test.testsAreRunAsTold();
        test.c.end("ReadmeTest");
    }

    private void callsAnswerAsTold() throws Exception {
        List<List<String>> blocks = blocks();
        c.due("blocks of Java", blocks.size(), 2);
        List<String> calls = new ArrayList<>();
        List<String> due = new ArrayList<>();
        StringBuilder source = new StringBuilder("public final class ReadmeCalls {\n");
        source.append(String.join("\n", blocks.get(0)));
        source.append("\npublic static void ask(java.util.List<String> got) {\n");
        for (String line : blocks.get(1)) {
            Matcher m = ASKED.matcher(line);
            if (m.matches()) {
                calls.add(m.group(1));
                due.add(m.group(2));
                source.append("got.add(String.valueOf(").append(m.group(1)).append("));\n");
            } else {
                source.append(line).append('\n');
            }
        }
        source.append("}\n}\n");
        List<String> got = answers(source.toString());
        c.due("calls told with an answer", calls.size() > 20, true);
        c.due("answers", got.size(), calls.size());
        for (int i = 0; i < Math.min(got.size(), calls.size()); i++) {
            c.due("README: " + calls.get(i) + " answered " + got.get(i) + ", not " + due.get(i), got.get(i).equals(due.get(i)), true);
        }
    }

    private List<List<String>> blocks() {
        List<List<String>> blocks = new ArrayList<>();
        List<String> block = null;
        for (String line : lines) {
            if (line.equals("```java")) {
                block = new ArrayList<>();
                blocks.add(block);
            } else if (line.equals("```")) {
                block = null;
            } else if (block != null) {
                block.add(line);
            }
        }
        return blocks;
    }

    private static List<String> answers(String source) throws Exception {
        Path folder = Files.createTempDirectory("readme");
        List<String> got = new ArrayList<>();
        try {
            Path file = Files.writeString(folder.resolve("ReadmeCalls.java"), source);
            String classes = new File(MerryDuchy.class.getProtectionDomain().getCodeSource().getLocation().toURI()).getPath();
            int failed = ToolProvider.getSystemJavaCompiler().run(null, null, null, "-cp", classes, "-d", folder.toString(), file.toString());
            if (failed == 0) {
                try (URLClassLoader loader = new URLClassLoader(new URL[] {folder.toUri().toURL()})) {
                    loader.loadClass("ReadmeCalls").getMethod("ask", List.class).invoke(null, got);
                }
            }
        } finally {
            try (Stream<Path> made = Files.walk(folder)) {
                made.sorted(Comparator.reverseOrder()).map(Path::toFile).forEach(File::delete);
            }
        }
        return got;
    }

    /** The table of calls has each public method once, and nothing else. */
    private void everyCallIsNamed() {
        List<String> named = new ArrayList<>();
        for (String line : lines) {
            Matcher m = Pattern.compile("`(\\w+)`").matcher(line.startsWith("| `") ? line : "");
            while (m.find()) {
                named.add(m.group(1));
            }
        }
        TreeSet<String> due = new TreeSet<>();
        for (Method m : MerryDuchy.class.getDeclaredMethods()) {
            if (Modifier.isPublic(m.getModifiers())) {
                due.add(m.getName());
            }
        }
        c.due("calls in the table, each once", named.size(), due.size());
        c.due("the table " + named + " against " + due, new TreeSet<>(named).equals(due), true);
    }

    private void testsAreRunAsTold() {
        List<String> commands = new ArrayList<>();
        boolean within = false;
        for (String line : lines) {
            within = line.startsWith("## ") ? line.equals("## Tests") : within;
            if (within && line.startsWith("    ")) {
                commands.add(line.trim());
            }
        }
        c.due("commands under Tests " + commands, commands.equals(List.of(".ci/run")), true);
        c.due(".ci/run can be run", Files.isExecutable(Path.of(".ci/run")), true);
    }
}
