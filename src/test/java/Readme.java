import java.io.ByteArrayOutputStream;
import java.io.IOException;
import java.io.PrintStream;
import java.nio.file.Files;
import java.nio.file.Path;
import java.util.ArrayList;
import java.util.List;

/** README.md and its blocks of code. */
final class Readme {
    private static final String FENCE = "```";

    /** A block between two fences, its language behind the first one; the number of its first line counts from 1. */
    record Block(String language, int firstLine, List<String> lines) {
        String text() {
            return String.join("\n", lines) + "\n";
        }

        boolean isProgram() {
            return language.equals("java") && text().contains("public final class Example ");
        }

        boolean isRowOfCalls() {
            return language.equals("java") && !isProgram();
        }
    }

    private Readme() { }

    static List<String> lines() throws IOException {
        return Files.readAllLines(Path.of("README.md"));
    }

    static List<Block> blocks() throws IOException {
        List<Block> blocks = new ArrayList<>();
        Block open = null;
        int number = 0;
        for (String line : lines()) {
            number++;
            if (!line.startsWith(FENCE)) {
                if (open != null) {
                    open.lines().add(line);
                }
            } else if (open == null) {
                open = new Block(line.substring(FENCE.length()), number + 1, new ArrayList<>());
            } else {
                blocks.add(open);
                open = null;
            }
        }
        if (open != null) {
            throw new AssertionError("README.md, line " + open.firstLine() + ": this block has no end");
        }
        return blocks;
    }

    /** What README.md says that its first program prints. */
    static String output() throws IOException {
        StringBuilder output = new StringBuilder();
        for (Block block : blocks()) {
            output.append(block.language().equals("text") ? block.text() : "");
        }
        return output.toString();
    }

    /** What a program prints. */
    static String printedBy(Runnable program) {
        PrintStream former = System.out;
        ByteArrayOutputStream printed = new ByteArrayOutputStream();
        System.setOut(new PrintStream(printed, true));
        try {
            program.run();
        } finally {
            System.setOut(former);
        }
        return printed.toString().replace("\r\n", "\n");
    }
}
