import java.util.ArrayList;
import java.util.List;

/**
 * All that can be found out about a wiki behind some calls: what each question answers, the ranks and locks, the
 * draft, and the versions behind those of now. Each object is asked within its 512 calls; where these do not suffice,
 * the calls are made on a new object once more.
 */
final class State {
    private static final String[] OF_A_PAGE = {"version", "rankOf", "force", "reaches", "extent", "standsFor", "links",
        "broken", "firstBroken", "linkedFrom", "breaches"};
    private static final String[] OF_AN_ITEM = {"sortAt", "itemAt", "itemAnew", "sourceAt"};
    private static final int[] LETTERS = {-1, 0, 1, 2, 5, 25};
    private static final int PAGES = 12, USERS = 6, VERSIONS = 20, PIECES = 30;

    private final List<Script.Call> made;
    private final boolean tellsCalls;
    private final List<String> lines = new ArrayList<>();
    private CountedWiki wiki;

    private State(List<Script.Call> made, boolean tellsCalls) {
        this.made = made;
        this.tellsCalls = tellsCalls;
    }

    /** The answers alone, or each with the call that got it. */
    static List<String> after(List<Script.Call> made, boolean tellsCalls) {
        State state = new State(made, tellsCalls);
        state.questions();
        state.ranks();
        state.locks();
        state.draftAsCounted();
        state.draftAsText(11);
        state.draftAsText(10);
        state.versions();
        return state.lines;
    }

    private void begin() {
        wiki = new CountedWiki();
        for (Script.Call call : made) {
            wiki.answer(call);
        }
    }

    private String ask(String name, Integer... arguments) {
        Script.Call call = new Script.Call(name, List.of(arguments), "");
        String answer = wiki.answer(call);
        lines.add(tellsCalls ? call + ": " + answer : answer);
        return answer;
    }

    /** Questions change nothing, so that the next may be asked of another object. */
    private String question(String name, Integer... arguments) {
        if (wiki.callsLeft() == 0) {
            begin();
        }
        return ask(name, arguments);
    }

    private void questions() {
        begin();
        lines.add("---- questions");
        question("breached");
        for (int page = 0; page < PAGES; page++) {
            for (String name : OF_A_PAGE) {
                question(name, page);
            }
            for (int letter = -1; letter < 26; letter++) {
                question("items", page, letter);
            }
            for (int letter : LETTERS) {
                items(page, letter);
            }
        }
    }

    private void items(int page, int letter) {
        String shown = question("items", page, letter);
        int places = Script.isThrown(shown) ? 0 : Math.min(Integer.parseInt(shown), 100);
        for (int place = 0; place < places; place++) {
            for (String name : OF_AN_ITEM) {
                question(name, page, letter, place);
            }
        }
    }

    private void ranks() {
        begin();
        lines.add("---- ranks");
        for (int user = 0; user < USERS; user++) {
            ask("setRank", user, 0);
        }
    }

    private void locks() {
        begin();
        lines.add("---- locks");
        unlock();
    }

    private void unlock() {
        ask("setRank", 0, 3);
        for (int page = 0; page < PAGES; page++) {
            ask("lock", 0, page, 0);
        }
    }

    private void draftAsCounted() {
        begin();
        lines.add("---- draft");
        ask("letter", 25);
        ask("argument");
    }

    /** The draft, its WHENs closed, laid on a page that has been emptied. */
    private void draftAsText(int page) {
        begin();
        lines.add("---- draft as text");
        unlock();
        empty(page);
        for (int i = 0; i <= PIECES && !Script.isThrown(ask("end")); i++) {
            continue;
        }
        ask("edit", 0, page);
        ask("reaches", page);
        ask("extent", page);
        ask("standsFor", page);
        for (int letter = -1; letter < 26; letter++) {
            ask("items", page, letter);
        }
        for (int place = 0; place < PIECES; place++) {
            ask("sortAt", page, -1, place);
            ask("itemAt", page, -1, place);
            ask("itemAt", page, 1, place);
            ask("itemAt", page, 5, place);
        }
    }

    private void empty(int page) {
        for (int i = 0; i <= VERSIONS; i++) {
            String answer = ask("undo", 0, page);
            if (Script.isThrown(answer) || answer.startsWith("-")) {
                return;
            }
        }
    }

    private void versions() {
        for (int page = 0; page < PAGES; page++) {
            begin();
            if (!wiki.answer(new Script.Call("version", List.of(page), "")).equals("0")) {
                lines.add("---- versions");
                unlock();
                versionsBehind(page);
            }
        }
    }

    private void versionsBehind(int page) {
        for (int i = 0; i <= VERSIONS; i++) {
            String answer = ask("undo", 0, page);
            if (Script.isThrown(answer) || answer.startsWith("-")) {
                return;
            }
            ask("rankOf", page);
            ask("reaches", page);
            ask("extent", page);
            ask("standsFor", page);
            ask("items", page, -1);
            ask("items", page, 1);
            ask("itemAt", page, -1, 0);
        }
    }
}
