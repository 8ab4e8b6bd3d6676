import java.io.IOException;
import java.lang.reflect.Field;
import java.lang.reflect.Modifier;
import java.util.ArrayList;
import java.util.List;
import java.util.Map;

/**
 * README.md tells each call of the face, with its arguments and with what it throws, and each constant with its value;
 * its examples have each call, each exception, and some refusals. What they answer ReadmeExamples looks after.
 */
public final class ReadmeTest {
    private static final Map<String, String> WORDS_FOR_EXCEPTIONS = Map.of(
        "IndexOutOfBoundsException", "index", "IllegalArgumentException", "range",
        "IllegalStateException", "state", "java.util.NoSuchElementException", "element");

    private static final Check CHECK = new Check();

    private ReadmeTest() { }

    public static void main(String[] arguments) throws IOException {
        List<String> lines = Readme.lines();
        tellsEachException(String.join(" ", lines));
        tellsEachConstant(String.join(" ", lines));
        List<Face.Method> methods = Face.methods();
        tellsEachCall(lines, methods);
        showsEachCall(methods);
        CHECK.end("ReadmeTest");
    }

    private static void tellsEachException(String text) {
        for (Map.Entry<String, String> word : WORDS_FOR_EXCEPTIONS.entrySet()) {
            String definition = "- " + word.getValue() + ": `" + word.getKey() + "`,";
            CHECK.is(true, text.contains(definition), "README.md says " + definition);
        }
    }

    private static void tellsEachConstant(String text) {
        for (Field field : MacroWiki.class.getFields()) {
            CHECK.is(true, Modifier.isStatic(field.getModifiers()), field.getName() + " is a constant");
            String name = "`" + field.getName() + "`";
            String value = String.valueOf(valueOf(field));
            boolean told = text.contains(name + " is " + value) || text.contains(name + " " + value)
                || text.contains("| " + name + " | " + value + " |");
            CHECK.is(true, told, "README.md says that " + name + " is " + value);
        }
    }

    private static int valueOf(Field field) {
        try {
            return field.getInt(null);
        } catch (IllegalAccessException hidden) {
            throw new AssertionError(field.getName() + " can't be read");
        }
    }

    /** The rows of calls in the tables are the face, in its order. */
    private static void tellsEachCall(List<String> lines, List<Face.Method> methods) {
        List<String> told = new ArrayList<>();
        for (String line : lines) {
            if (line.matches("\\| `\\w+\\(.*")) {
                told.add(callOf(line));
            }
        }
        List<String> due = new ArrayList<>();
        for (Face.Method method : methods) {
            due.add(callOf(method));
        }
        CHECK.is(due.size(), told.size(), "the number of calls in README.md's tables");
        for (int i = 0; i < Math.min(due.size(), told.size()); i++) {
            CHECK.is(true, told.get(i).equals(due.get(i)), "README.md tells " + told.get(i) + ", due is " + due.get(i));
        }
    }

    /** The call of a row of a table, and the words for what it throws: each the first one behind a semicolon. */
    private static String callOf(String row) {
        String[] cells = row.substring(1).split("\\|");
        StringBuilder call = new StringBuilder(cells[0].strip().replace("`", ""));
        String thrown = cells.length > 2 ? cells[2].strip() : "";
        for (String exception : thrown.split(";")) {
            call.append(' ').append(exception.strip().split(" ")[0]);
        }
        return call.toString().strip();
    }

    private static String callOf(Face.Method method) {
        StringBuilder call = new StringBuilder(method.name());
        call.append('(').append(String.join(", ", method.parameters())).append(')');
        for (String exception : method.exceptions()) {
            call.append(' ').append(WORDS_FOR_EXCEPTIONS.get(exception));
        }
        return call.toString();
    }

    private static void showsEachCall(List<Face.Method> methods) throws IOException {
        StringBuilder examples = new StringBuilder();
        for (Readme.Block block : Readme.blocks()) {
            examples.append(block.isRowOfCalls() ? block.text() : "");
        }
        for (Face.Method method : methods) {
            boolean shown = examples.indexOf("\nwiki." + method.name() + "(") >= 0;
            CHECK.is(true, shown, "README.md has an example of " + method.name());
        }
        for (String exception : WORDS_FOR_EXCEPTIONS.keySet()) {
            String name = exception.substring(exception.lastIndexOf('.') + 1);
            CHECK.is(true, examples.indexOf("// throws " + name) >= 0, "README.md has an example of " + name);
        }
        for (String refusal : List.of("LOCKED", "RING", "REACH")) {
            CHECK.is(true, examples.indexOf("// " + refusal) >= 0, "README.md has an example of " + refusal);
        }
    }
}
