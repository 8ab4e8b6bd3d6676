import java.io.IOException;
import java.util.List;
import java.util.Set;

/**
 * Each sentence of the document that names a boundary case has a test of its own, which tells the sentence in its
 * name. Fails also if a sentence of the terms or the promises is named by no test. With the argument "names" it tells
 * each test's name.
 */
public final class BoundariesTest {
    /** The head and the end of the document, which ask for nothing, or set free. */
    private static final Set<String> SECTIONS_WITHOUT_CASES = Set.of("MacroWiki", "The public face", "Not promised");

    private static final List<String> CLAUSES_WITHOUT_CASES = List.of(
        "What it is | A wiki with macros: pages of pieces that call other pages with an argument, choices by the "
            + "argument, anchors, links over redirects and a checker of them, locks by rank that reach all that a "
            + "locked page calls, edits that are refused, undone and approved, and breaches, where a locked page "
            + "shows what its lock did not allow",
        "What it is | what later calls answer is free",
        "Exceptions | Ahead of the calls letter, argument, call, callOn, when, end, anchor, link, redirect the "
            + "interface says: ---- the draft",
        "Exceptions | Ahead of the calls edit, undo, approve, lock, setRank the interface says: ---- edits",
        "Exceptions | Ahead of the calls version, rankOf, force, reaches, extent, items, sortAt, itemAt, itemAnew, "
            + "sourceAt the interface says: ---- pages",
        "Exceptions | Ahead of the calls standsFor, links, broken, firstBroken, linkedFrom, breaches, breached the "
            + "interface says: ---- links and breaches");

    private BoundariesTest() { }

    public static void main(String[] arguments) throws IOException {
        Boundaries tests = new Boundaries(arguments.length > 0 && arguments[0].equals("names"));
        new TermBoundaries(tests).all();
        new RefusalBoundaries(tests).all();
        new DraftBoundaries(tests).all();
        new EditBoundaries(tests).all();
        new QuestionBoundaries(tests).all();
        tests.end(SECTIONS_WITHOUT_CASES, CLAUSES_WITHOUT_CASES);
    }
}
