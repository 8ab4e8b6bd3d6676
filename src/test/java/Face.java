import java.io.IOException;
import java.nio.file.Files;
import java.nio.file.Path;
import java.util.ArrayList;
import java.util.List;
import java.util.regex.Matcher;
import java.util.regex.Pattern;

/** The public face, as the document has it. */
final class Face {
    static final List<String> CONSTANTS = List.of(
        "static final int NONE = -1",
        "static final int LOCKED = -2, RING = -3, DEEP = -4, LONG = -5, REACH = -6",
        "static final int LETTER = 0, ANCHOR = 1, LINK = 2");

    static final String CONSTRUCTOR = "MacroWiki()";

    static final List<String> METHODS = List.of(
        "int letter(int letter) throws IllegalArgumentException, IllegalStateException",
        "int argument() throws IllegalStateException",
        "int call(int page, int letter)"
            + " throws IndexOutOfBoundsException, IllegalArgumentException, IllegalStateException",
        "int callOn(int page) throws IndexOutOfBoundsException, IllegalStateException",
        "int when(int letter) throws IllegalArgumentException, IllegalStateException",
        "int end() throws IllegalStateException",
        "int anchor(int anchor) throws IllegalArgumentException, IllegalStateException",
        "int link(int page, int anchor)"
            + " throws IndexOutOfBoundsException, IllegalArgumentException, IllegalStateException",
        "int redirect(int page) throws IndexOutOfBoundsException, IllegalStateException",
        "int edit(int user, int page) throws IndexOutOfBoundsException, IllegalStateException",
        "int undo(int user, int page) throws IndexOutOfBoundsException, IllegalStateException",
        "boolean approve(int user, int page) throws IndexOutOfBoundsException",
        "int lock(int user, int page, int rank) throws IndexOutOfBoundsException, IllegalArgumentException",
        "int setRank(int user, int rank) throws IndexOutOfBoundsException, IllegalArgumentException",
        "int version(int page) throws IndexOutOfBoundsException",
        "int rankOf(int page) throws IndexOutOfBoundsException",
        "int force(int page) throws IndexOutOfBoundsException",
        "int reaches(int page) throws IndexOutOfBoundsException",
        "int extent(int page) throws IndexOutOfBoundsException",
        "int items(int page, int letter) throws IndexOutOfBoundsException, IllegalArgumentException",
        "int sortAt(int page, int letter, int place)"
            + " throws IndexOutOfBoundsException, IllegalArgumentException, java.util.NoSuchElementException",
        "int itemAt(int page, int letter, int place)"
            + " throws IndexOutOfBoundsException, IllegalArgumentException, java.util.NoSuchElementException",
        "int itemAnew(int page, int letter, int place)"
            + " throws IndexOutOfBoundsException, IllegalArgumentException, java.util.NoSuchElementException",
        "int sourceAt(int page, int letter, int place)"
            + " throws IndexOutOfBoundsException, IllegalArgumentException, java.util.NoSuchElementException",
        "int standsFor(int page) throws IndexOutOfBoundsException",
        "int links(int page) throws IndexOutOfBoundsException",
        "int broken(int page) throws IndexOutOfBoundsException",
        "int firstBroken(int page) throws IndexOutOfBoundsException",
        "int linkedFrom(int page) throws IndexOutOfBoundsException",
        "int breaches(int page) throws IndexOutOfBoundsException",
        "int breached()");

    private static final Path DOCUMENT = Path.of("../shared/DOC.md");
    private static final Pattern METHOD = Pattern.compile("(int|boolean) (\\w+)\\((.*?)\\)(?: throws (.+))?");

    /** A method with the names of its parameters, which all are int, and its throws clause. */
    record Method(String answer, String name, List<String> parameters, List<String> exceptions) { }

    private Face() { }

    static List<Method> methods() {
        List<Method> methods = new ArrayList<>();
        for (String text : METHODS) {
            Matcher matcher = METHOD.matcher(text);
            if (!matcher.matches()) {
                throw new AssertionError("no method: " + text);
            }
            List<String> parameters = new ArrayList<>();
            for (String parameter : parts(matcher.group(3))) {
                parameters.add(parameter.replaceFirst("^int ", ""));
            }
            methods.add(new Method(matcher.group(1), matcher.group(2), parameters, parts(matcher.group(4))));
        }
        return methods;
    }

    private static List<String> parts(String row) {
        return row == null || row.isEmpty() ? List.of() : List.of(row.split(", "));
    }

    /** The lines of the document's face behind "public", in its order; none where the document can't be read. */
    static List<String> inDocument() throws IOException {
        List<String> found = new ArrayList<>();
        if (Files.isReadable(DOCUMENT)) {
            for (String line : Files.readAllLines(DOCUMENT)) {
                if (line.startsWith("    public ")) {
                    found.add(line.strip().replaceFirst("^public ", "").replaceFirst(";$", ""));
                }
            }
        }
        return found;
    }
}
