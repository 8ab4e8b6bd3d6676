import java.io.IOException;
import java.util.ArrayList;
import java.util.HashMap;
import java.util.List;
import java.util.Map;
import java.util.Set;

/**
 * Runs tests that name a sentence of the document each. Beside the answers of a script it looks, at each call that
 * throws or is refused, whether nothing else has changed by it, and at the end, whether the questions changed nothing.
 */
final class Boundaries {
    private static final int MOST_QUESTIONS_MADE_AGAIN = 120;
    private static final int MOST_STATES = 200;
    /** So many of the 512 calls leave enough for all that is asked behind them. */
    private static final int MOST_CALLS_MADE_AGAIN = 250;

    private final Sentences sentences = new Sentences();
    private final boolean tellsNames;
    private final Map<List<Script.Call>, List<String>> states = new HashMap<>();
    private String section = "";
    private String name = "";
    private boolean right = true;
    private int tests = 0;
    private int wrong = 0;

    Boundaries(boolean tellsNames) throws IOException {
        this.tellsNames = tellsNames;
    }

    /** The section of the document that the next tests are about. */
    void of(String section) {
        this.section = section;
    }

    /** A test: what the sentence asks for in this case; each script is run on a new object. */
    void says(String sentence, String what, String... scripts) {
        begin(sentence, what);
        for (String script : scripts) {
            run(Script.read(script));
        }
        finish();
    }

    /** A test that the calls, all together, leave everything as it is behind those that have been made. */
    void leavesAll(String sentence, String what, String made, String calls) {
        begin(sentence, what);
        List<Script.Call> before = Script.read(made);
        List<Script.Call> behind = new ArrayList<>(before);
        behind.addAll(Script.read(calls));
        compare(before, behind, "the calls");
        finish();
    }

    void holds(String sentence, String what, boolean held) {
        begin(sentence, what);
        if (!held) {
            tell("does not hold");
        }
        finish();
    }

    void end(Set<String> sectionsWithoutCases, List<String> clausesWithoutCases) {
        List<String> unnamed = sentences.unnamed(sectionsWithoutCases);
        for (String clause : unnamed) {
            if (!clausesWithoutCases.contains(clause)) {
                wrong++;
                System.out.println("no test names: " + clause);
            }
        }
        System.out.println("BoundariesTest: " + tests + " tests, " + wrong + " faults");
        if (!Sentences.isThere()) {
            System.out.println("the document is not there: the sentences that the tests name were not looked up");
        }
        if (wrong != 0 || tests == 0) {
            System.exit(1);
        }
    }

    private void begin(String sentence, String what) {
        tests++;
        right = true;
        name = section + " | '" + sentence + "' | " + what;
        if (!sentences.name(section, sentence)) {
            tell("the document has no such sentence there");
        }
    }

    private void finish() {
        if (tellsNames) {
            System.out.println((right ? "ok: " : "FAILED: ") + name);
        }
    }

    private void tell(String text) {
        right = false;
        wrong++;
        System.out.println(name + ": " + text);
    }

    private void run(List<Script.Call> script) {
        CountedWiki wiki = new CountedWiki();
        List<Script.Call> made = new ArrayList<>();
        List<Script.Call> questions = new ArrayList<>();
        for (int i = 0; i < script.size(); i++) {
            Script.Call call = script.get(i);
            String answer = wiki.answer(call);
            if (!call.isAnsweredBy(answer)) {
                tell("the call " + (i + 1) + " of " + script.subList(0, i + 1) + " answered " + answer + ", due is "
                    + (call.due().isEmpty() ? "an answer" : call.due()));
                return;
            }
            if (call.isQuestion()) {
                questions.add(call);
            } else {
                made = behind(made, call, answer);
            }
        }
        int first = Math.max(0, questions.size() - MOST_QUESTIONS_MADE_AGAIN);
        if (!questions.isEmpty()) {
            compare(made, with(made, questions.subList(first, questions.size())), "the questions");
        }
    }

    /** The calls that have brought the wiki where it is, those left out that change nothing. */
    private List<Script.Call> behind(List<Script.Call> made, Script.Call call, String answer) {
        boolean refused = call.isRefusedBy(answer);
        if (!refused && !Script.isThrown(answer)) {
            return with(made, List.of(call));
        }
        // Behind a refused edit all is as if its draft had not been begun.
        List<Script.Call> before = refused && call.name().equals("edit") ? withoutDraft(made) : made;
        compare(before, with(made, List.of(call)), call.toString());
        return before;
    }

    private static List<Script.Call> with(List<Script.Call> made, List<Script.Call> calls) {
        List<Script.Call> all = new ArrayList<>(made);
        all.addAll(calls);
        return all;
    }

    private static List<Script.Call> withoutDraft(List<Script.Call> made) {
        List<Script.Call> left = new ArrayList<>(made);
        for (int i = left.size() - 1; i >= 0 && !left.get(i).name().equals("edit"); i--) {
            if (left.get(i).isOfDraft()) {
                left.remove(i);
            }
        }
        return left;
    }

    private void compare(List<Script.Call> before, List<Script.Call> behind, String calls) {
        if (behind.size() > MOST_CALLS_MADE_AGAIN || stateAfter(before).equals(stateAfter(behind))) {
            return;
        }
        List<String> want = State.after(before, true);
        List<String> got = State.after(behind, true);
        int at = 0;
        while (at < want.size() && at < got.size() && want.get(at).equals(got.get(at))) {
            at++;
        }
        tell(calls + " behind " + before + " changed something: " + (at < got.size() ? got.get(at) : "nothing more")
            + ", due is " + (at < want.size() ? want.get(at) : "nothing more"));
    }

    private List<String> stateAfter(List<Script.Call> made) {
        List<String> known = states.get(made);
        if (known == null) {
            if (states.size() >= MOST_STATES) {
                states.clear();
            }
            known = State.after(made, false);
            states.put(made, known);
        }
        return known;
    }
}
