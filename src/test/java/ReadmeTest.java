import java.io.File;
import java.io.IOException;
import java.net.URL;
import java.net.URLClassLoader;
import java.nio.file.Files;
import java.nio.file.Path;
import java.util.ArrayList;
import java.util.List;
import java.util.Set;
import java.util.TreeSet;
import java.util.function.Supplier;
import java.util.regex.Matcher;
import java.util.regex.Pattern;
import java.util.stream.Stream;
import javax.tools.ToolProvider;

/** The code of README.md is compiled and run as it stands there, and answers what stands behind its calls. */
public final class ReadmeTest {
    private static final Check CHECK = new Check("ReadmeTest");
    private static final Pattern CALL = Pattern.compile("(?:int (\\w+) = )?(centre\\.(\\w+)\\(.*\\)); +// (-?\\d+): \\S.*");
    private static final Pattern ERROR = Pattern.compile("// (-?\\d+): ([A-Z_]+)\\b");

    private static final String[] METHODS = {
        "set", "cutoff", "mail", "pass", "batch", "machine", "route", "count", "delayed", "queued", "sortedAt", "wouldMiss",
        "least", "put", "wipe", "fault", "carryOut", "undo", "save", "restore"
    };

    private final String readme;
    private final StringBuilder body = new StringBuilder();
    private final List<String> lines = new ArrayList<>();
    private final List<Long> due = new ArrayList<>();
    private final Set<String> called = new TreeSet<>();

    private ReadmeTest(String readme) {
        this.readme = readme;
    }

    public static void main(String[] args) throws Exception {
        ReadmeTest test = new ReadmeTest(Files.readString(Path.of("README.md")));
        test.read();
        test.run();
        test.errors();
        test.tests();
        CHECK.finish();
    }

    // ---- calls

    private void read() {
        boolean code = false;
        for (String line : readme.split("\n")) {
            if (line.startsWith("```")) {
                code = line.equals("```java");
            } else if (code) {
                add(line);
            }
        }
        for (String method : METHODS) {
            CHECK.holds("a call of " + method + "() is shown", called.contains(method));
        }
    }

    private void add(String line) {
        Matcher call = CALL.matcher(line);
        if (call.matches()) {
            String name = call.group(1);
            body.append(name == null ? "" : "int " + name + " = (int) ");
            body.append("(answers[").append(lines.size()).append("] = ").append(call.group(2)).append(");\n");
            lines.add(line);
            due.add(Long.parseLong(call.group(4)));
            called.add(call.group(3));
        } else {
            CHECK.holds("a call tells its answer: " + line, !line.startsWith("centre.") && !line.contains("= centre."));
            body.append(line).append('\n');
        }
    }

    private void run() throws Exception {
        Path folder = Files.createTempDirectory("readme");
        Path source = folder.resolve("ReadmeCalls.java");
        // an assignment is no statement in parentheses, so that each is a call of its own
        String calls = body.toString().replaceAll("(?m)^\\((answers.*)\\);$", "$1;");
        Files.writeString(source, "public final class ReadmeCalls implements java.util.function.Supplier<long[]> {\n"
            + "public long[] get() {\nlong[] answers = new long[" + lines.size() + "];\n" + calls + "return answers;\n}\n}\n");
        int failed = ToolProvider.getSystemJavaCompiler().run(null, null, null, "-cp", System.getProperty("java.class.path"), "-d",
            folder.toString(), source.toString());
        CHECK.due("the code of README.md does not compile", failed, 0);
        if (failed == 0) {
            compare(answers(folder));
        }
        for (File file : folder.toFile().listFiles()) {
            file.delete();
        }
        Files.delete(folder);
    }

    private static long[] answers(Path folder) throws Exception {
        try (URLClassLoader loader = new URLClassLoader(new URL[] {folder.toUri().toURL()})) {
            Object calls = loader.loadClass("ReadmeCalls").getDeclaredConstructor().newInstance();
            return (long[]) ((Supplier<?>) calls).get();
        }
    }

    private void compare(long[] answers) {
        for (int call = 0; call < answers.length; call++) {
            CHECK.due(lines.get(call), answers[call], due.get(call));
        }
    }

    /** The names of the errors that stand behind a call are those of the numbers. */
    private void errors() throws Exception {
        Set<String> named = new TreeSet<>();
        for (String line : lines) {
            Matcher error = ERROR.matcher(line);
            boolean found = error.find();
            CHECK.holds("an error has a name, other answers have none: " + line, found == line.contains("// -"));
            if (found) {
                named.add(error.group(2));
                CHECK.due(line, LetterRuns.class.getField(error.group(2)).getInt(null), Long.parseLong(error.group(1)));
            }
        }
        CHECK.due("names of errors and NONE", named.size(), 5);
        CHECK.holds("the sixth one", readme.contains("TOO_MANY (" + LetterRuns.TOO_MANY + ")"));
    }

    // ---- how to run the tests

    private void tests() throws IOException {
        CHECK.holds(".ci/run is shown", readme.contains("\n    .ci/run\n"));
        CHECK.holds(".ci/run can be run", Files.isExecutable(Path.of(".ci/run")));
        Set<String> shown = new TreeSet<>();
        Matcher row = Pattern.compile("(?m)^\\| (\\w+Test(?:, \\w+Test)*) \\| ").matcher(readme);
        while (row.find()) {
            for (String name : row.group(1).split(", ")) {
                shown.add(name + ".java");
            }
        }
        Set<String> there = new TreeSet<>();
        try (Stream<Path> files = Files.list(Path.of("src/test/java"))) {
            files.map(file -> file.getFileName().toString()).filter(name -> name.endsWith("Test.java")).forEach(there::add);
        }
        CHECK.same("the tests that are shown are those that are there", String.join("\n", shown), String.join("\n", there));
    }
}
