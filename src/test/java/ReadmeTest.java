import java.io.IOException;
import java.lang.reflect.Method;
import java.lang.reflect.Modifier;
import java.nio.charset.StandardCharsets;
import java.nio.file.Files;
import java.nio.file.Path;
import java.util.ArrayList;
import java.util.List;

/** What README.md shows is so when it is done as it says: its commands run, its example prints what it tells. */
public final class ReadmeTest {
    private static final String TESTS = ".ci/run";

    /** A part of the page between two fences; its sign says what it is. */
    private static final class Block {
        final String sign;
        final String text;

        Block(String sign, String text) {
            this.sign = sign;
            this.text = text;
        }
    }

    public static void main(String[] args) throws IOException, InterruptedException {
        String page = Files.readString(Path.of("README.md"), StandardCharsets.US_ASCII);
        List<Block> blocks = blocks(page);
        programIsTheFile(blocks);
        commands(blocks);
        allCallsAreNamed(page);
        Checks.close("ReadmeTest");
    }

    private static List<Block> blocks(String page) {
        List<Block> blocks = new ArrayList<>();
        String[] parts = page.split("(?m)^```");
        Checks.due("each fence has another one", parts.length % 2, 1);
        for (int i = 1; i < parts.length; i += 2) {
            int end = parts[i].indexOf('\n');
            blocks.add(new Block(parts[i].substring(0, end), parts[i].substring(end + 1)));
        }
        return blocks;
    }

    private static void programIsTheFile(List<Block> blocks) throws IOException {
        String file = Files.readString(Path.of("src/example/java/Example.java"), StandardCharsets.US_ASCII);
        int shown = 0;
        for (Block block : blocks) {
            if (block.sign.equals("java")) {
                shown++;
                Checks.due("the program that is shown", block.text, file);
            }
        }
        Checks.due("programs that are shown", shown, 1);
    }

    /** Runs all commands, in their order; a block of output is what the commands ahead of it print. */
    private static void commands(List<Block> blocks) throws IOException, InterruptedException {
        String printed = null;
        int outputs = 0;
        for (Block block : blocks) {
            if (block.sign.equals("sh")) {
                printed = block.text.trim().equals(TESTS) ? null : printedBy(block.text);
            } else if (block.sign.equals("text")) {
                outputs++;
                Checks.due("the commands print", String.valueOf(printed), block.text);
            } else {
                Checks.due("a block is a program or commands or output", block.sign, "java");
            }
        }
        Checks.due("outputs that are shown", outputs, 1);
        // Running it here would run this test again and again.
        Checks.due("the command that runs all tests is there", Files.isExecutable(Path.of(TESTS)), true);
    }

    private static String printedBy(String commands) throws IOException, InterruptedException {
        Process shell = new ProcessBuilder("sh", "-e", "-c", commands).redirectErrorStream(true).start();
        shell.getOutputStream().close();
        String printed = new String(shell.getInputStream().readAllBytes(), StandardCharsets.US_ASCII);
        Checks.due(commands + printed + "the exit code", shell.waitFor(), 0);
        return printed;
    }

    private static void allCallsAreNamed(String page) {
        for (Method method : FadingSignals.class.getDeclaredMethods()) {
            if (Modifier.isPublic(method.getModifiers())) {
                Checks.due("the page names " + method.getName(), page.contains("`" + method.getName() + "`"), true);
            }
        }
    }
}
