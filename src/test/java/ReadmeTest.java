import java.io.IOException;
import java.io.UncheckedIOException;
import java.lang.reflect.Method;
import java.lang.reflect.Modifier;
import java.nio.file.Files;
import java.nio.file.Path;
import java.util.ArrayList;
import java.util.List;

/** Does what README.md says, as it is written there; it is run in the directory of README.md. */
public final class ReadmeTest {
    private static final Path README = Path.of("README.md");
    private static final Path EXAMPLE = Path.of("src/example/java/Example.java");
    private static final Path CI = Path.of(".ci/run");
    private static final Path TESTS = Path.of("src/test/java");
    // Where the commands of README.md put the classes; here each run has a directory of its own.
    private static final String OUT = "/tmp/player";

    private static final String TEXT = read(README);
    private static final List<Block> BLOCKS = blocks();

    /** A piece of README.md between two fences. */
    private record Block(String language, String text) {
    }

    private ReadmeTest() {
    }

    public static void main(String[] args) {
        Check.sentence("README", "This is `src/example/java/Example.java`", () ->
            Check.same("the code", only("java").text(), read(EXAMPLE)));
        commandsRun();
        Check.sentence("README", "The parameters of `setParameter`", ReadmeTest::parametersAreTrue);
        Check.sentence("README", "when, calls", ReadmeTest::allCallsAreNamed);
        Check.sentence("README", "test, what of the document", ReadmeTest::allTestsAreNamed);
        Check.end();
    }

    private static void commandsRun() {
        for (int i = 0; i < BLOCKS.size(); i++) {
            Block block = BLOCKS.get(i);
            boolean answered = i + 1 < BLOCKS.size() && BLOCKS.get(i + 1).language().equals("text");
            String answer = answered ? BLOCKS.get(i + 1).text() : null;
            if (block.language().equals("sh")) {
                Check.sentence("README", block.text().trim(), () -> commandsHold(block.text(), answer));
            }
        }
    }

    private static void commandsHold(String commands, String answer) {
        // This test is itself run by .ci/run.
        if (commands.trim().equals(CI.toString())) {
            Check.holds("that it can be run", Files.isExecutable(CI));
            return;
        }
        Path out = temporary();
        Path said = out.resolve("said");
        Check.due("the exit code", shell(commands.replace(OUT, out.toString()), said), 0);
        if (answer != null) {
            Check.same("what it printed", read(said), answer);
        }
    }

    private static void parametersAreTrue() {
        int rows = 0;
        for (String line : TEXT.split("\n")) {
            if (line.matches("\\| \\d+ \\|.*\\| \\d+ \\| \\d+ \\| \\d+ \\|")) {
                String[] cells = line.split(" *\\| *");
                Check.due("the number of the row", Integer.parseInt(cells[1]), rows);
                parameterIsTrue(rows, Integer.parseInt(cells[3]), Integer.parseInt(cells[4]),
                    Integer.parseInt(cells[5]));
                rows++;
            }
        }
        int beyond = rows;
        Check.fails("a parameter beyond the table", IndexOutOfBoundsException.class,
            () -> new StreamPlayer().setParameter(beyond, 1));
    }

    private static void parameterIsTrue(int parameter, int least, int greatest, int first) {
        StreamPlayer x = new StreamPlayer();
        Check.due("parameter " + parameter + " at first", x.setParameter(parameter, least), first);
        Check.due("the least of " + parameter, x.setParameter(parameter, greatest), least);
        Check.fails("below the least of " + parameter, IllegalArgumentException.class,
            () -> x.setParameter(parameter, least - 1));
        Check.fails("above the greatest of " + parameter, IllegalArgumentException.class,
            () -> x.setParameter(parameter, greatest + 1));
        Check.due("the greatest of " + parameter, x.setParameter(parameter, least), greatest);
    }

    private static void allCallsAreNamed() {
        for (Method method : StreamPlayer.class.getDeclaredMethods()) {
            if (Modifier.isPublic(method.getModifiers())) {
                Check.holds("that " + method.getName() + " is named",
                    TEXT.contains("`" + method.getName() + "`"));
            }
        }
    }

    private static void allTestsAreNamed() {
        for (String line : TEXT.split("\n")) {
            if (line.matches("\\| \\w+Test \\|.*")) {
                String name = line.split(" *\\| *")[1];
                Check.holds("that there is " + name, Files.exists(TESTS.resolve(name + ".java")));
            }
        }
        String[] files = TESTS.toFile().list();
        Check.holds("that there are tests", files != null && files.length > 0);
        for (String file : files == null ? new String[0] : files) {
            if (file.endsWith("Test.java")) {
                Check.holds("that " + file + " is named",
                    TEXT.contains("\n| " + file.replace(".java", "") + " |"));
            }
        }
    }

    private static Block only(String language) {
        List<Block> found = new ArrayList<>();
        for (Block block : BLOCKS) {
            if (block.language().equals(language)) {
                found.add(block);
            }
        }
        Check.due("the number of pieces of " + language, found.size(), 1);
        return found.isEmpty() ? new Block(language, "") : found.get(0);
    }

    private static List<Block> blocks() {
        List<Block> found = new ArrayList<>();
        // Before, in and behind the fences by turns.
        String[] parts = TEXT.split("(?m)^```");
        for (int i = 1; i < parts.length; i += 2) {
            int end = parts[i].indexOf('\n');
            found.add(new Block(parts[i].substring(0, end), parts[i].substring(end + 1)));
        }
        return found;
    }

    private static int shell(String commands, Path said) {
        try {
            ProcessBuilder builder = new ProcessBuilder("sh", "-e", "-c", commands);
            builder.redirectErrorStream(true).redirectOutput(said.toFile());
            return builder.start().waitFor();
        } catch (IOException e) {
            throw new UncheckedIOException(e);
        } catch (InterruptedException e) {
            throw new IllegalStateException(e);
        }
    }

    private static Path temporary() {
        try {
            return Files.createTempDirectory("player");
        } catch (IOException e) {
            throw new UncheckedIOException(e);
        }
    }

    private static String read(Path file) {
        try {
            return Files.readString(file);
        } catch (IOException e) {
            throw new UncheckedIOException(e);
        }
    }
}
