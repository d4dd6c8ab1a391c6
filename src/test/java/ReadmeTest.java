import java.io.IOException;
import java.lang.reflect.Method;
import java.nio.charset.StandardCharsets;
import java.nio.file.DirectoryStream;
import java.nio.file.Files;
import java.nio.file.Path;
import java.util.ArrayList;
import java.util.List;

/** README.md: its example prints what it says, its commands work, no call and no test is left out. */
public final class ReadmeTest {
    private static final Path README = Path.of("README.md");
    private static final Check CHECK = new Check();

    public static void main(String[] args) throws Exception {
        CHECK.due("README.md is there", Files.isRegularFile(README), true);
        if (Files.isRegularFile(README)) {
            List<String> lines = Files.readAllLines(README);
            exampleRuns(blocks(lines, "java"), blocks(lines, "text"));
            commandsWork(blocks(lines, "sh"));
            nothingIsLeftOut(String.join("\n", lines));
        }
        CHECK.finish("ReadmeTest");
    }

    /** What stands between the lines that begin and end a block of a language. */
    private static List<String> blocks(List<String> lines, String language) {
        List<String> blocks = new ArrayList<>();
        StringBuilder block = null;
        for (String line : lines) {
            if (block == null && line.equals("```" + language)) {
                block = new StringBuilder();
            } else if (block != null && line.equals("```")) {
                blocks.add(block.toString());
                block = null;
            } else if (block != null) {
                block.append(line).append('\n');
            }
        }
        return blocks;
    }

    private static void exampleRuns(List<String> java, List<String> texts) throws Exception {
        CHECK.due("one example", java.size(), 1);
        if (java.size() != 1 || texts.isEmpty()) {
            return;
        }
        Path out = Files.createTempDirectory("readme");
        Path file = out.resolve("Example.java");
        Files.writeString(file, java.get(0));
        String compile = sh("javac -d '" + out + "' src/main/java/WhiteRoads.java '" + file + "'");
        CHECK.due("javac of the example", compile, "");
        CHECK.due("the example", sh("java -cp '" + out + "' Example"), texts.get(0));
        clear(out);
    }

    /** The first block is the way of running all tests, which is on its way now; the others are gone through. */
    private static void commandsWork(List<String> blocks) throws Exception {
        CHECK.due("all tests are run by", blocks.isEmpty() ? "" : blocks.get(0), ".ci/run\n");
        CHECK.due(".ci/run can be run", Files.isExecutable(Path.of(".ci/run")), true);
        for (int i = 1; i < blocks.size(); i++) {
            String answer = sh("set -e\ntrap 'rm -rf \"$out\"' EXIT\n" + blocks.get(i) + "echo all went well");
            CHECK.due(blocks.get(i) + answer, answer.endsWith("all went well\n"), true);
        }
    }

    private static void nothingIsLeftOut(String page) throws IOException {
        for (Method m : WhiteRoads.class.getDeclaredMethods()) {
            if (java.lang.reflect.Modifier.isPublic(m.getModifiers())) {
                CHECK.due("the page tells of " + m.getName(), page.contains("`" + m.getName() + "`"), true);
            }
        }
        for (Class<?> c : WhiteRoads.class.getDeclaredClasses()) {
            CHECK.due("the page tells of " + c.getSimpleName(), page.contains("`" + c.getSimpleName() + "`"), true);
        }
        try (DirectoryStream<Path> files = Files.newDirectoryStream(Path.of("src/test/java"), "*Test.java")) {
            for (Path file : files) {
                String name = file.getFileName().toString().replace(".java", "");
                CHECK.due("the page tells of " + name, page.contains("| `" + name + "` |"), true);
            }
        }
        for (String line : page.split("\n")) {
            if (line.matches("\\| `\\w+Test` \\|.*")) {
                String name = line.split("`")[1];
                CHECK.due(name + " is there", Files.exists(Path.of("src/test/java/" + name + ".java")), true);
            }
        }
    }

    /** What a command prints (but for what goes to where errors go), and its exit code if that isn't 0. */
    private static String sh(String command) throws Exception {
        Process process = new ProcessBuilder("sh", "-c", command).redirectError(ProcessBuilder.Redirect.INHERIT).start();
        process.getOutputStream().close();
        String printed = new String(process.getInputStream().readAllBytes(), StandardCharsets.UTF_8);
        int code = process.waitFor();
        return code == 0 ? printed : printed + "exit code " + code;
    }

    private static void clear(Path directory) throws IOException {
        try (DirectoryStream<Path> files = Files.newDirectoryStream(directory)) {
            for (Path file : files) {
                Files.delete(file);
            }
        }
        Files.delete(directory);
    }
}
