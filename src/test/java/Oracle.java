import java.util.ArrayList;
import java.util.List;
import java.util.NoSuchElementException;

/** The document once more, said in the plainest way and found anew for each question: what the tests compare with. */
final class Oracle {
    enum Kind { LETTER, ARGUMENT, CALL, CALL_ON, WHEN, END, ANCHOR, LINK, REDIRECT }

    record Piece(Kind kind, int page, int sign) { }

    record Item(int sort, int value, int source) { }

    static final class Version {
        final List<Piece> text;
        int rank;

        Version(List<Piece> text, int rank) {
            this.text = text;
            this.rank = rank;
        }
    }

    private final List<Piece> draft = new ArrayList<>();
    private final List<List<Version>> versions = new ArrayList<>();
    private final int[] locks = new int[12];
    private final int[] users = new int[6];

    Oracle() {
        for (int page = 0; page < 12; page++) {
            List<Version> row = new ArrayList<>();
            row.add(new Version(List.of(), 3));
            versions.add(row);
        }
    }

    // ---- the draft

    int letter(int letter) {
        range(letter, 0, 25);
        return add(new Piece(Kind.LETTER, -1, letter));
    }

    int argument() {
        return add(new Piece(Kind.ARGUMENT, -1, -1));
    }

    int call(int page, int letter) {
        known(page, 12);
        range(letter, -1, 25);
        return add(new Piece(Kind.CALL, page, letter));
    }

    int callOn(int page) {
        known(page, 12);
        return add(new Piece(Kind.CALL_ON, page, -1));
    }

    int when(int letter) {
        range(letter, 0, 25);
        return add(new Piece(Kind.WHEN, -1, letter));
    }

    int end() {
        if (open() == 0) {
            throw new IllegalStateException();
        }
        return add(new Piece(Kind.END, -1, -1));
    }

    int anchor(int anchor) {
        range(anchor, 0, 9);
        return add(new Piece(Kind.ANCHOR, -1, anchor));
    }

    int link(int page, int anchor) {
        known(page, 12);
        range(anchor, 0, 9);
        return add(new Piece(Kind.LINK, page, anchor));
    }

    int redirect(int page) {
        known(page, 12);
        return add(new Piece(Kind.REDIRECT, page, -1));
    }

    private int add(Piece piece) {
        if (draft.size() == 30) {
            throw new IllegalStateException();
        }
        draft.add(piece);
        return draft.size();
    }

    int drafted() {
        return draft.size();
    }

    int open() {
        int open = 0;
        for (Piece piece : draft) {
            open += piece.kind() == Kind.WHEN ? 1 : piece.kind() == Kind.END ? -1 : 0;
        }
        return open;
    }

    // ---- edits

    int edit(int user, int page) {
        known(user, 6);
        known(page, 12);
        if (open() > 0 || version(page) == 20) {
            throw new IllegalStateException();
        }
        List<Piece> text = List.copyOf(draft);
        draft.clear();
        if (users[user] < force(page)) {
            return -2;
        }
        int before = reaches(page);
        versions.get(page).add(new Version(text, users[user]));
        int refusal = refusal(page, before);
        if (refusal != -1) {
            versions.get(page).remove(version(page));
            return refusal;
        }
        return version(page);
    }

    int undo(int user, int page) {
        known(user, 6);
        known(page, 12);
        if (version(page) == 0) {
            throw new IllegalStateException();
        }
        if (users[user] < force(page) || versions.get(page).get(version(page) - 1).rank < force(page)) {
            return -2;
        }
        int before = reaches(page);
        Version dropped = versions.get(page).remove(version(page));
        int refusal = refusal(page, before);
        if (refusal != -1) {
            versions.get(page).add(dropped);
            return refusal;
        }
        return version(page);
    }

    /** With the new text in its place; before is what the page had reached. */
    private int refusal(int page, int before) {
        if (has(reaches(page), page)) {
            return -3;
        }
        for (int other = 0; other < 12; other++) {
            if (depth(other) > 5) {
                return -4;
            }
        }
        long[] known = new long[12];
        for (int other = 0; other < 12; other++) {
            if (longExtent(other, known) > 100) {
                return -5;
            }
        }
        for (int other = 0; other < 12; other++) {
            if (has(reaches(page), other) && !has(before, other) && rankOf(other) < force(page)) {
                return -6;
            }
        }
        return -1;
    }

    boolean approve(int user, int page) {
        known(user, 6);
        known(page, 12);
        if (users[user] < force(page) || users[user] <= rankOf(page)) {
            return false;
        }
        versions.get(page).get(version(page)).rank = users[user];
        return true;
    }

    int lock(int user, int page, int rank) {
        known(user, 6);
        known(page, 12);
        range(rank, 0, 3);
        if (users[user] < locks[page] || users[user] < rank) {
            return -2;
        }
        int before = locks[page];
        locks[page] = rank;
        return before;
    }

    int setRank(int user, int rank) {
        known(user, 6);
        range(rank, 0, 3);
        int before = users[user];
        users[user] = rank;
        return before;
    }

    // ---- pages

    int version(int page) {
        known(page, 12);
        return versions.get(page).size() - 1;
    }

    int rankOf(int page) {
        known(page, 12);
        return versions.get(page).get(version(page)).rank;
    }

    int force(int page) {
        known(page, 12);
        int force = locks[page];
        for (int other = 0; other < 12; other++) {
            if (has(reaches(other), page)) {
                force = Math.max(force, locks[other]);
            }
        }
        return force;
    }

    int reaches(int page) {
        known(page, 12);
        return reach(page, 0);
    }

    private int reach(int page, int found) {
        int all = found;
        for (int called : called(page)) {
            if (!has(all, called)) {
                all = reach(called, all | 1 << called);
            }
        }
        return all;
    }

    int extent(int page) {
        known(page, 12);
        return (int) longExtent(page, new long[12]);
    }

    /** Known holds 1 more than the extents that are found already. */
    private long longExtent(int page, long[] known) {
        if (known[page] == 0) {
            long extent = 0;
            for (Piece piece : text(page)) {
                extent += switch (piece.kind()) {
                    case LETTER, ARGUMENT, ANCHOR, LINK -> 1;
                    case CALL, CALL_ON -> longExtent(piece.page(), known);
                    default -> 0;
                };
            }
            known[page] = extent + 1;
        }
        return known[page] - 1;
    }

    private int depth(int page) {
        int depth = 0;
        List<Integer> done = new ArrayList<>();
        for (int called : called(page)) {
            if (!done.contains(called)) {
                done.add(called);
                depth = Math.max(depth, 1 + depth(called));
            }
        }
        return depth;
    }

    private List<Integer> called(int page) {
        List<Integer> called = new ArrayList<>();
        for (Piece piece : text(page)) {
            if (piece.kind() == Kind.CALL || piece.kind() == Kind.CALL_ON) {
                called.add(piece.page());
            }
        }
        return called;
    }

    private List<Piece> text(int page) {
        return versions.get(page).get(version(page)).text;
    }

    int items(int page, int letter) {
        known(page, 12);
        range(letter, -1, 25);
        return show(page, letter).size();
    }

    Item item(int page, int letter, int place) {
        known(page, 12);
        range(letter, -1, 25);
        List<Item> shown = show(page, letter);
        if (place < 0 || place >= shown.size()) {
            throw new NoSuchElementException();
        }
        return shown.get(place);
    }

    private List<Item> show(int page, int letter) {
        List<Item> shown = new ArrayList<>();
        show(page, text(page), letter, shown);
        return shown;
    }

    private void show(int page, List<Piece> pieces, int letter, List<Item> shown) {
        for (int i = 0; i < pieces.size(); i++) {
            Piece piece = pieces.get(i);
            switch (piece.kind()) {
                case LETTER -> shown.add(new Item(0, piece.sign(), page));
                case ANCHOR -> shown.add(new Item(1, piece.sign(), page));
                case LINK -> shown.add(new Item(2, 10 * piece.page() + piece.sign(), page));
                case ARGUMENT -> {
                    if (letter != -1) {
                        shown.add(new Item(0, letter, page));
                    }
                }
                case CALL -> show(piece.page(), text(piece.page()), piece.sign(), shown);
                case CALL_ON -> show(piece.page(), text(piece.page()), letter, shown);
                case WHEN -> {
                    int end = endOf(pieces, i);
                    if (letter == piece.sign()) {
                        show(page, pieces.subList(i + 1, end), letter, shown);
                    }
                    i = end;
                }
                default -> { }
            }
        }
    }

    private static int endOf(List<Piece> pieces, int when) {
        int open = 0;
        for (int i = when; ; i++) {
            open += pieces.get(i).kind() == Kind.WHEN ? 1 : pieces.get(i).kind() == Kind.END ? -1 : 0;
            if (open == 0) {
                return i;
            }
        }
    }

    // ---- links and breaches

    int standsFor(int page) {
        known(page, 12);
        return standsFor(page, 3);
    }

    private int standsFor(int page, int redirects) {
        List<Piece> text = text(page);
        if (text.size() != 1 || text.get(0).kind() != Kind.REDIRECT) {
            return page;
        }
        return redirects == 0 ? -1 : standsFor(text.get(0).page(), redirects - 1);
    }

    int links(int page) {
        return linksOf(page).size();
    }

    int broken(int page) {
        int broken = 0;
        for (int link : linksOf(page)) {
            broken += good(link) ? 0 : 1;
        }
        return broken;
    }

    int firstBroken(int page) {
        for (int link : linksOf(page)) {
            if (!good(link)) {
                return link;
            }
        }
        return -1;
    }

    int linkedFrom(int page) {
        known(page, 12);
        int set = 0;
        for (int from = 0; from < 12; from++) {
            for (int link : linksOf(from)) {
                if (good(link) && (link / 10 == page || standsFor(link / 10) == page)) {
                    set |= 1 << from;
                }
            }
        }
        return set;
    }

    private List<Integer> linksOf(int page) {
        known(page, 12);
        List<Integer> links = new ArrayList<>();
        for (Item item : show(page, -1)) {
            if (item.sort() == 2) {
                links.add(item.value());
            }
        }
        return links;
    }

    private boolean good(int link) {
        int page = standsFor(link / 10);
        if (page == -1) {
            return false;
        }
        for (Item item : show(page, -1)) {
            if (item.sort() == 1 && item.value() == link % 10) {
                return true;
            }
        }
        return false;
    }

    int breaches(int page) {
        known(page, 12);
        int breaches = 0;
        for (Item item : show(page, -1)) {
            breaches += rankOf(item.source()) < locks[page] ? 1 : 0;
        }
        return breaches;
    }

    int breached() {
        int breached = 0;
        for (int page = 0; page < 12; page++) {
            breached += breaches(page) > 0 ? 1 : 0;
        }
        return breached;
    }

    // ---- exceptions

    private static void known(int index, int bound) {
        if (index < 0 || index >= bound) {
            throw new IndexOutOfBoundsException();
        }
    }

    private static void range(int value, int least, int greatest) {
        if (value < least || value > greatest) {
            throw new IllegalArgumentException();
        }
    }

    private static boolean has(int set, int page) {
        return (set >> page & 1) == 1;
    }
}
