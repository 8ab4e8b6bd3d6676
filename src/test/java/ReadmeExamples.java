import java.io.IOException;
import java.nio.file.Files;
import java.nio.file.Path;
import java.util.regex.Matcher;
import java.util.regex.Pattern;

/**
 * Makes programs of the examples of README.md, in the folder that the argument names: Example.java, as it stands
 * there, and ReadmeCalls.java, which looks whether that prints what README.md says, and makes the calls of the
 * other examples, each with the answer that stands behind it. Ends with exit code 1 at a line that it can't read.
 */
public final class ReadmeExamples {
    private static final String NEW_OBJECT = "MacroWiki wiki = new MacroWiki();";
    private static final Pattern CALL = Pattern.compile("(wiki\\.\\w+\\([^;]*\\)); +// (throws )?(\\w+|-\\d+)(: .+)?");
    private static final Pattern CONSTANT = Pattern.compile("[A-Z]+");

    private ReadmeExamples() { }

    public static void main(String[] arguments) throws IOException {
        Path folder = Path.of(arguments[0]);
        Files.createDirectories(folder);
        StringBuilder examples = new StringBuilder();
        StringBuilder callsOfThem = new StringBuilder();
        int programs = 0;
        for (Readme.Block block : Readme.blocks()) {
            if (block.isProgram()) {
                programs++;
                Files.writeString(folder.resolve("Example.java"), block.text());
            } else if (block.isRowOfCalls()) {
                String name = "exampleOfLine" + block.firstLine();
                callsOfThem.append("        ").append(name).append("();\n");
                examples.append("\n    private static void ").append(name).append("() {\n");
                addCalls(examples, block);
                examples.append("    }\n");
            }
        }
        if (programs != 1 || examples.isEmpty()) {
            refuse("README.md has to have one program and some examples, not " + programs + " programs");
        }
        Files.writeString(folder.resolve("ReadmeCalls.java"), program(callsOfThem, examples));
    }

    private static String program(CharSequence callsOfExamples, CharSequence examples) {
        return "import java.util.NoSuchElementException;\n\n"
            + "public final class ReadmeCalls {\n"
            + "    private static final Check CHECK = new Check();\n\n"
            + "    public static void main(String[] arguments) throws java.io.IOException {\n"
            + "        String printed = Readme.printedBy(() -> Example.main(new String[0]));\n"
            + "        CHECK.is(true, printed.equals(Readme.output()), \"README.md's program prints\\n\" + printed);\n"
            + callsOfExamples
            + "        CHECK.end(\"The examples of README.md\");\n"
            + "    }\n"
            + examples
            + "}\n";
    }

    private static void addCalls(StringBuilder program, Readme.Block block) {
        if (!block.lines().get(0).equals(NEW_OBJECT)) {
            refuse("README.md, line " + block.firstLine() + ": an example has to begin with a new object");
        }
        program.append("        ").append(NEW_OBJECT).append("\n");
        for (int i = 1; i < block.lines().size(); i++) {
            String line = block.lines().get(i);
            if (!line.isEmpty()) {
                program.append("        ").append(checked(line, block.firstLine() + i)).append("\n");
            }
        }
    }

    /** A call with its answer, as a call of Check. */
    private static String checked(String line, int number) {
        Matcher matcher = CALL.matcher(line);
        if (!matcher.matches()) {
            refuse("README.md, line " + number + ": neither a call with its answer, nor empty: " + line);
        }
        String call = matcher.group(1);
        String answer = matcher.group(3);
        String name = "\"README.md, line " + number + ": " + call + "\"";
        if (matcher.group(2) != null) {
            return "CHECK.fails(" + answer + ".class, () -> " + call + ", " + name + ");";
        }
        String due = CONSTANT.matcher(answer).matches() ? "MacroWiki." + answer : answer;
        return "CHECK.is(" + due + ", " + call + ", " + name + ");";
    }

    private static void refuse(String reason) {
        System.out.println(reason);
        System.exit(1);
    }
}
