import java.io.IOException;
import java.nio.file.Files;
import java.nio.file.Path;
import java.util.List;
import java.util.concurrent.TimeUnit;
import java.util.regex.Matcher;
import java.util.regex.Pattern;
import javax.tools.ToolProvider;

/** README.md keeps its word: its program prints what it says, and it names every call. */
public final class ReadmeTest {
    public static void main(String[] args) throws Exception {
        Due due = new Due();
        String page = Files.readString(Path.of("README.md"));
        due.same("the program of README.md prints", printed(block(page, "java")), block(page, "text"));
        for (String call : FaceTest.names()) {
            due.is("README.md names " + call, page.contains("`" + call + "`") ? 1 : 0, 1);
        }
        due.is("README.md says how to run the tests", page.contains(".ci/run") ? 1 : 0, 1);
        due.end();
    }

    private static String block(String page, String kind) {
        Matcher m = Pattern.compile("(?s)```" + kind + "\n(.*?)```").matcher(page);
        return m.find() ? m.group(1) : "no block of " + kind;
    }

    private static String printed(String program) throws IOException, InterruptedException {
        Path folder = Files.createTempDirectory("readme");
        Path file = folder.resolve("Example.java");
        Files.writeString(file, program);
        String compiled = folder.toString();
        try {
            int failed = ToolProvider.getSystemJavaCompiler().run(null, null, null, "-Xlint:all", "-d", compiled,
                "src/main/java/TruceLine.java", file.toString());
            return failed == 0 ? run(compiled) : "it does not compile";
        } finally {
            clear(folder);
        }
    }

    private static String run(String folder) throws IOException, InterruptedException {
        Path java = Path.of(System.getProperty("java.home"), "bin", "java");
        Path out = Path.of(folder, "out");
        Process process = new ProcessBuilder(List.of(java.toString(), "-cp", folder, "Example"))
            .redirectErrorStream(true).redirectOutput(out.toFile()).start();
        if (!process.waitFor(60, TimeUnit.SECONDS)) {
            process.destroyForcibly();
            return "it does not end";
        }
        return Files.readString(out);
    }

    private static void clear(Path folder) throws IOException {
        try (var files = Files.list(folder)) {
            for (Path file : files.toList()) Files.delete(file);
        }
        Files.delete(folder);
    }
}
