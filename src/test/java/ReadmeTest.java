import java.io.IOException;
import java.nio.file.Files;
import java.nio.file.Path;
import java.util.ArrayList;
import java.util.List;
import java.util.concurrent.TimeUnit;
import java.util.regex.Matcher;
import java.util.regex.Pattern;
import java.util.stream.Stream;

/**
 * README.md against the project as it is: its example is the file that it names, its commands work in a fresh copy of the
 * project, and print what it says, and its table names the tests that there are. It runs in the project's folder.
 */
public final class ReadmeTest {
    private static final Path README = Path.of("README.md");
    private static final Path EXAMPLE = Path.of("src/example/java/Example.java");
    private static final Path TESTS = Path.of("src/test/java");
    /** The command that runs this test, and would run it again and again. */
    private static final String ALL_TESTS = ".ci/run\n";
    private static final int NO_EXIT = -1;
    private static final Pattern BLOCK = Pattern.compile("(?m)^```(\\w+)\n((?s:.*?))^```$");
    private static final Check CHECK = new Check();

    private record Block(String kind, String text) {
    }

    private static List<Block> blocksOf(String text) {
        List<Block> blocks = new ArrayList<>();
        Matcher matcher = BLOCK.matcher(text);
        while (matcher.find()) {
            blocks.add(new Block(matcher.group(1), matcher.group(2)));
        }
        return blocks;
    }

    private static void same(String what, String got, String due) {
        CHECK.due(what + ": got\n" + got + "due is\n" + due, got.equals(due), true);
    }

    // ---- a fresh copy of the project, with the shared folder beside it

    private static Path freshCopy(Path room) throws IOException {
        Path copy = Files.createDirectory(room.resolve("copy"));
        try (Stream<Path> files = Files.walk(Path.of("src"))) {
            for (Path file : (Iterable<Path>) files::iterator) {
                Files.copy(file, copy.resolve(file));
            }
        }
        Files.createSymbolicLink(room.resolve("shared"), Path.of("../shared").toRealPath());
        return copy;
    }

    private static void remove(Path room) throws IOException {
        List<Path> all;
        try (Stream<Path> files = Files.walk(room)) {
            all = new ArrayList<>(files.toList());
        }
        for (int i = all.size() - 1; i >= 0; i--) {
            Files.delete(all.get(i));
        }
    }

    /** What the commands print, or what went wrong. */
    private static String run(Path folder, String commands) throws IOException, InterruptedException {
        Path printed = Files.createTempFile("readme", ".out");
        ProcessBuilder builder = new ProcessBuilder("sh", "-e", "-c", commands);
        builder.directory(folder.toFile()).redirectErrorStream(true).redirectOutput(printed.toFile());
        Process process = builder.start();
        boolean hasEnded = process.waitFor(5, TimeUnit.MINUTES);
        if (!hasEnded) {
            process.destroyForcibly();
        }
        String text = Files.readString(printed);
        Files.delete(printed);
        CHECK.due(commands + "printed\n" + text + "and its exit code", hasEnded ? process.exitValue() : NO_EXIT, 0);
        return text;
    }

    // ---- what the page says

    private static void commands(List<Block> blocks) throws IOException, InterruptedException {
        Path room = Files.createTempDirectory("readme");
        Path copy = freshCopy(room);
        int count = 0;
        for (int i = 0; i < blocks.size(); i++) {
            Block block = blocks.get(i);
            if (!block.kind.equals("sh") || block.text.equals(ALL_TESTS)) {
                continue;
            }
            String printed = run(copy, block.text);
            count++;
            if (i + 1 < blocks.size() && blocks.get(i + 1).kind.equals("text")) {
                same("what the page says is printed by\n" + block.text, printed, blocks.get(i + 1).text);
            }
        }
        remove(room);
        CHECK.due("blocks of commands that were run", count, 3);
    }

    private static void allTests(List<Block> blocks) {
        CHECK.due("the page says how all tests are run", blocks.contains(new Block("sh", ALL_TESTS)), true);
        CHECK.due("that file can be run", Files.isExecutable(Path.of(".ci/run")), true);
    }

    private static void example(List<Block> blocks) throws IOException {
        int count = 0;
        for (Block block : blocks) {
            if (block.kind.equals("java")) {
                count++;
                same("the example of the page", block.text, Files.readString(EXAMPLE));
            }
        }
        CHECK.due("examples", count, 1);
    }

    private static void table(String text) throws IOException {
        List<String> named = new ArrayList<>();
        Matcher row = Pattern.compile("(?m)^\\| (\\w+Test) \\|").matcher(text);
        while (row.find()) {
            named.add(row.group(1) + ".java");
        }
        List<String> there = new ArrayList<>();
        try (Stream<Path> files = Files.list(TESTS)) {
            files.map(file -> file.getFileName().toString()).filter(name -> name.endsWith("Test.java")).forEach(there::add);
        }
        there.sort(null);
        named.sort(null);
        CHECK.due("the table's tests " + named + " as those that there are " + there, named.equals(there), true);
    }

    /** What the page says of paths, in quotes: each is there. */
    private static void paths(String text) {
        Matcher path = Pattern.compile("`([\\w.]+(?:/[\\w.]+)+)`").matcher(text);
        int count = 0;
        while (path.find()) {
            count++;
            CHECK.due(path.group(1) + " is there", Files.exists(Path.of(path.group(1))), true);
        }
        CHECK.due("paths were found", count > 0, true);
    }

    public static void main(String[] args) throws IOException, InterruptedException {
        String text = Files.readString(README);
        List<Block> blocks = blocksOf(text);
        example(blocks);
        commands(blocks);
        allTests(blocks);
        table(text);
        paths(text);
        CHECK.end();
    }
}
