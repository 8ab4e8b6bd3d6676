import java.util.NoSuchElementException;

/**
 * A wiki with macros: pages of pieces that call other pages with an argument, links over redirects,
 * locks by rank that reach all that a locked page calls, and edits that are refused, undone and approved.
 */
public final class MacroWiki {
    public static final int NONE = -1;
    public static final int LOCKED = -2, RING = -3, DEEP = -4, LONG = -5, REACH = -6;
    public static final int LETTER = 0, ANCHOR = 1, LINK = 2;

    /** The sorts of pieces that are no sorts of items. */
    private static final int ARGUMENT = 3, CALL = 4, CALL_ON = 5, WHEN = 6, END = 7, REDIRECT = 8;

    private static final int PAGES = 12, USERS = 6, LETTERS = 26, ANCHORS = 10, RANKS = 4;
    private static final int MOST_PIECES = 30, MOST_VERSIONS = 20, MOST_REDIRECTS = 3;
    private static final int GREATEST_DEPTH = 5, GREATEST_EXTENT = 100, GREATEST_RANK = RANKS - 1;

    /** What an item needs that two WHENs of different letters stand around. */
    private static final int NEVER = -2;

    private final Text draft;
    private final Page[] pages;
    private final int[] userRanks;
    /** The calls as they are; and as the edit that is being looked at would make them. */
    private Net net;
    private Net trial;

    public MacroWiki() {
        draft = new Text();
        userRanks = new int[USERS];
        net = new Net();
        trial = new Net();
        pages = new Page[PAGES];
        for (int page = 0; page < pages.length; page++) {
            pages[page] = new Page();
        }
    }

    // ---- the draft

    public int letter(int letter) throws IllegalArgumentException, IllegalStateException {
        requireBelow(letter, LETTERS);
        return addPiece(LETTER, NONE, letter);
    }

    public int argument() throws IllegalStateException {
        return addPiece(ARGUMENT, NONE, NONE);
    }

    public int call(int page, int letter)
            throws IndexOutOfBoundsException, IllegalArgumentException, IllegalStateException {
        requirePage(page);
        requireArgument(letter);
        return addPiece(CALL, page, letter);
    }

    public int callOn(int page) throws IndexOutOfBoundsException, IllegalStateException {
        requirePage(page);
        return addPiece(CALL_ON, page, NONE);
    }

    public int when(int letter) throws IllegalArgumentException, IllegalStateException {
        requireBelow(letter, LETTERS);
        return addPiece(WHEN, NONE, letter);
    }

    public int end() throws IllegalStateException {
        if (!draft.hasOpenWhen()) {
            throw new IllegalStateException("no WHEN is open");
        }
        return addPiece(END, NONE, NONE);
    }

    public int anchor(int anchor) throws IllegalArgumentException, IllegalStateException {
        requireBelow(anchor, ANCHORS);
        return addPiece(ANCHOR, NONE, anchor);
    }

    public int link(int page, int anchor)
            throws IndexOutOfBoundsException, IllegalArgumentException, IllegalStateException {
        requirePage(page);
        requireBelow(anchor, ANCHORS);
        return addPiece(LINK, page, anchor);
    }

    public int redirect(int page) throws IndexOutOfBoundsException, IllegalStateException {
        requirePage(page);
        return addPiece(REDIRECT, page, NONE);
    }

    // ---- edits

    public int edit(int user, int page) throws IndexOutOfBoundsException, IllegalStateException {
        int rank = rankOfUser(user);
        Page edited = pageAt(page);
        if (draft.hasOpenWhen()) {
            throw new IllegalStateException("a WHEN of the draft is open");
        }
        if (edited.now.number >= MOST_VERSIONS) {
            throw new IllegalStateException("the page has 20 versions behind the version 0");
        }
        int refusal = rank < forceOn(page) ? LOCKED : refusalOf(page, draft);
        if (refusal == NONE) {
            Text text = new Text();
            text.addAll(draft);
            edited.now = new Version(edited.now, edited.now.number + 1, text, rank);
            settle();
        }
        draft.clear();
        return refusal == NONE ? edited.now.number : refusal;
    }

    public int undo(int user, int page) throws IndexOutOfBoundsException, IllegalStateException {
        int rank = rankOfUser(user);
        Page undone = pageAt(page);
        Version before = undone.now.before;
        if (before == null) {
            throw new IllegalStateException("the version of now is the version 0");
        }
        int force = forceOn(page);
        int refusal = rank < force || before.rank < force ? LOCKED : refusalOf(page, before.text);
        if (refusal != NONE) {
            return refusal;
        }
        undone.now = before;
        settle();
        return before.number;
    }

    public boolean approve(int user, int page) throws IndexOutOfBoundsException {
        int rank = rankOfUser(user);
        Version approved = pageAt(page).now;
        if (rank < forceOn(page) || rank <= approved.rank) {
            return false;
        }
        approved.rank = rank;
        return true;
    }

    public int lock(int user, int page, int rank) throws IndexOutOfBoundsException, IllegalArgumentException {
        int userRank = rankOfUser(user);
        Page locked = pageAt(page);
        requireBelow(rank, RANKS);
        int before = locked.lock;
        if (userRank < before || userRank < rank) {
            return LOCKED;
        }
        locked.lock = rank;
        return before;
    }

    public int setRank(int user, int rank) throws IndexOutOfBoundsException, IllegalArgumentException {
        int before = rankOfUser(user);
        requireBelow(rank, RANKS);
        put(userRanks, user, rank);
        return before;
    }

    // ---- pages

    public int version(int page) throws IndexOutOfBoundsException {
        return pageAt(page).now.number;
    }

    public int rankOf(int page) throws IndexOutOfBoundsException {
        return pageAt(page).now.rank;
    }

    public int force(int page) throws IndexOutOfBoundsException {
        requirePage(page);
        return forceOn(page);
    }

    public int reaches(int page) throws IndexOutOfBoundsException {
        requirePage(page);
        return net.reachedFrom(page);
    }

    public int extent(int page) throws IndexOutOfBoundsException {
        requirePage(page);
        return net.extentOf(page);
    }

    public int items(int page, int letter) throws IndexOutOfBoundsException, IllegalArgumentException {
        Spread spread = pageAt(page).spread;
        requireArgument(letter);
        return spread.count(letter);
    }

    public int sortAt(int page, int letter, int place)
            throws IndexOutOfBoundsException, IllegalArgumentException, NoSuchElementException {
        Spread spread = pageAt(page).spread;
        return spread.itemSort(indexOf(spread, letter, place));
    }

    public int itemAt(int page, int letter, int place)
            throws IndexOutOfBoundsException, IllegalArgumentException, NoSuchElementException {
        Spread spread = pageAt(page).spread;
        return spread.itemWith(indexOf(spread, letter, place), letter);
    }

    public int itemAnew(int page, int letter, int place)
            throws IndexOutOfBoundsException, IllegalArgumentException, NoSuchElementException {
        requirePage(page);
        requireArgument(letter);
        Walk walk = new Walk(place);
        walkPage(walk, page, letter, 0);
        if (walk.found == NONE) {
            throw new NoSuchElementException("the page does not show so many items");
        }
        return walk.found;
    }

    public int sourceAt(int page, int letter, int place)
            throws IndexOutOfBoundsException, IllegalArgumentException, NoSuchElementException {
        Spread spread = pageAt(page).spread;
        return spread.sourceOf(indexOf(spread, letter, place));
    }

    // ---- links and breaches

    public int standsFor(int page) throws IndexOutOfBoundsException {
        requirePage(page);
        return behindRedirects(page);
    }

    public int links(int page) throws IndexOutOfBoundsException {
        Spread spread = pageAt(page).spread;
        int count = 0;
        for (int i = 0; i < spread.size; i++) {
            if (spread.showsSort(i, LINK)) {
                count++;
            }
        }
        return count;
    }

    public int broken(int page) throws IndexOutOfBoundsException {
        Spread spread = pageAt(page).spread;
        int count = 0;
        for (int i = 0; i < spread.size; i++) {
            if (isBroken(spread, i)) {
                count++;
            }
        }
        return count;
    }

    public int firstBroken(int page) throws IndexOutOfBoundsException {
        Spread spread = pageAt(page).spread;
        for (int i = 0; i < spread.size; i++) {
            if (isBroken(spread, i)) {
                return spread.itemWith(i, NONE);
            }
        }
        return NONE;
    }

    public int linkedFrom(int page) throws IndexOutOfBoundsException {
        requirePage(page);
        int set = 0;
        for (int from = 0; from < PAGES; from++) {
            if (hasGoodLink(from, page)) {
                set |= 1 << from;
            }
        }
        return set;
    }

    public int breaches(int page) throws IndexOutOfBoundsException {
        return countBreaches(pageAt(page));
    }

    public int breached() {
        int count = 0;
        for (int page = 0; page < PAGES; page++) {
            if (countBreaches(pageAt(page)) > 0) {
                count++;
            }
        }
        return count;
    }

    // ---- what the calls ask of their arguments

    private static void requireBelow(int value, int bound) {
        if (value < 0 || value >= bound) {
            throw new IllegalArgumentException("an argument is out of its range");
        }
    }

    private static void requireArgument(int letter) {
        if (letter != NONE) {
            requireBelow(letter, LETTERS);
        }
    }

    private static void requirePage(int page) {
        if (page < 0 || page >= PAGES) {
            throw new IndexOutOfBoundsException("there is no such page");
        }
    }

    private Page pageAt(int page) {
        Page found = page >= 0 && page < pages.length ? pages[page] : null;
        if (found == null) {
            throw new IndexOutOfBoundsException("there is no such page");
        }
        return found;
    }

    private int rankOfUser(int user) {
        if (user < 0 || user >= USERS) {
            throw new IndexOutOfBoundsException("there is no such user");
        }
        return at(userRanks, user);
    }

    /** Where the item at a place stands in a spread. */
    private static int indexOf(Spread spread, int letter, int place) {
        requireArgument(letter);
        int index = spread.find(letter, place);
        if (index == NONE) {
            throw new NoSuchElementException("the page does not show so many items");
        }
        return index;
    }

    // ---- the draft and the edits

    private int addPiece(int sort, int page, int sign) {
        if (draft.size >= MOST_PIECES) {
            throw new IllegalStateException("the draft has 30 pieces");
        }
        draft.add(sort, page, sign);
        return draft.size;
    }

    /** Why a text is refused for what its page would call, NONE if it is not; the trial is left with these calls. */
    private int refusalOf(int page, Text text) {
        trial.takeCalls(net);
        trial.setCalls(page, text);
        trial.findReached();
        // Depths and extents have an end only where no page reaches itself.
        if (contains(trial.reachedFrom(page), page)) {
            return RING;
        }
        trial.findDepths();
        if (trial.greatestDepth() > GREATEST_DEPTH) {
            return DEEP;
        }
        trial.findExtents();
        if (trial.greatestExtent() > GREATEST_EXTENT) {
            return LONG;
        }
        int added = trial.reachedFrom(page) & ~net.reachedFrom(page);
        return hasRankBelow(added, forceOn(page)) ? REACH : NONE;
    }

    private boolean hasRankBelow(int set, int rank) {
        for (int page = 0; page < PAGES; page++) {
            if (contains(set, page) && pageAt(page).now.rank < rank) {
                return true;
            }
        }
        return false;
    }

    /** Takes the calls of the trial for those of now, once the text of now of a page has changed. */
    private void settle() {
        Net former = net;
        net = trial;
        trial = former;
        // A spread is made of those of the called pages, which are less deep.
        for (int depth = 0; depth <= GREATEST_DEPTH; depth++) {
            for (int page = 0; page < PAGES; page++) {
                if (net.depthOf(page) == depth) {
                    spreadPage(page);
                }
            }
        }
    }

    private int forceOn(int page) {
        int force = pageAt(page).lock;
        for (int other = 0; other < PAGES; other++) {
            if (contains(net.reachedFrom(other), page)) {
                force = Math.max(force, pageAt(other).lock);
            }
        }
        return force;
    }

    // ---- what is shown

    private void spreadPage(int page) {
        Page shown = pageAt(page);
        Text text = shown.now.text;
        Spread spread = shown.spread;
        spread.clear();
        for (int i = 0; i < text.size; i++) {
            spreadPiece(spread, text, i, page);
        }
    }

    private void spreadPiece(Spread spread, Text text, int i, int page) {
        int sort = text.sortOf(i);
        switch (sort) {
            case WHEN:
                spread.openWhen(text.signOf(i));
                break;
            case END:
                spread.closeWhen();
                break;
            case CALL:
                spread.takeCalled(pageAt(text.pageOf(i)).spread, text.signOf(i));
                break;
            case CALL_ON:
                spread.takeCalledOn(pageAt(text.pageOf(i)).spread);
                break;
            case LETTER:
            case ARGUMENT:
            case ANCHOR:
            case LINK:
                spread.add(spread.need(), sort, text.itemOf(i), page);
                break;
            default:
                break;
        }
    }

    private void walkPage(Walk walk, int page, int argument, int depth) {
        // Calls of pages that can show nothing may be many: thirty in each of thirty, five deep.
        if (depth > GREATEST_DEPTH || net.extentOf(page) == 0) {
            return;
        }
        Text text = pageAt(page).now.text;
        // How many WHENs are open from the outermost one that leaves out what it holds.
        int shut = 0;
        for (int i = 0; i < text.size && !walk.isOver(); i++) {
            int sort = text.sortOf(i);
            if (sort == WHEN && (shut > 0 || text.signOf(i) != argument)) {
                shut++;
            } else if (sort == END && shut > 0) {
                shut--;
            } else if (shut == 0) {
                walkPiece(walk, text, i, argument, depth);
            }
        }
    }

    private void walkPiece(Walk walk, Text text, int i, int argument, int depth) {
        switch (text.sortOf(i)) {
            case CALL:
                walkPage(walk, text.pageOf(i), text.signOf(i), depth + 1);
                break;
            case CALL_ON:
                walkPage(walk, text.pageOf(i), argument, depth + 1);
                break;
            case ARGUMENT:
                if (argument != NONE) {
                    walk.meet(argument);
                }
                break;
            case LETTER:
            case ANCHOR:
            case LINK:
                walk.meet(text.itemOf(i));
                break;
            default:
                break;
        }
    }

    // ---- links and breaches, found

    private int behindRedirects(int page) {
        int reached = page;
        for (int redirects = 0; redirects <= MOST_REDIRECTS; redirects++) {
            Text text = pageAt(reached).now.text;
            if (!text.isRedirectAlone()) {
                return reached;
            }
            reached = text.pageOf(0);
        }
        return NONE;
    }

    private boolean isBroken(Spread spread, int i) {
        return spread.showsSort(i, LINK) && !isGood(spread.itemWith(i, NONE));
    }

    private boolean isGood(int link) {
        int page = behindRedirects(link / ANCHORS);
        return page != NONE && pageAt(page).spread.hasAnchor(link % ANCHORS);
    }

    private boolean hasGoodLink(int from, int page) {
        Spread spread = pageAt(from).spread;
        for (int i = 0; i < spread.size; i++) {
            int link = spread.itemWith(i, NONE);
            if (spread.showsSort(i, LINK) && leadsTo(link, page) && isGood(link)) {
                return true;
            }
        }
        return false;
    }

    private boolean leadsTo(int link, int page) {
        int target = link / ANCHORS;
        return target == page || behindRedirects(target) == page;
    }

    private int countBreaches(Page page) {
        Spread spread = page.spread;
        int count = 0;
        for (int i = 0; i < spread.size; i++) {
            if (spread.shows(i, NONE) && pageAt(spread.sourceOf(i)).now.rank < page.lock) {
                count++;
            }
        }
        return count;
    }

    // ---- rows and sets

    private static int at(int[] row, int index) {
        return index >= 0 && index < row.length ? row[index] : 0;
    }

    private static void put(int[] row, int index, int value) {
        if (index >= 0 && index < row.length) {
            row[index] = value;
        }
    }

    private static int greatest(int[] row) {
        int greatest = 0;
        for (int i = 0; i < row.length; i++) {
            greatest = Math.max(greatest, row[i]);
        }
        return greatest;
    }

    private static boolean contains(int set, int member) {
        return (set >> member & 1) != 0;
    }

    /** A page: its version of now, which knows those before, its lock, and all that it can show. */
    private static final class Page {
        private Version now = new Version(null, 0, new Text(), GREATEST_RANK);
        private int lock = 0;
        private final Spread spread = new Spread();
    }

    /** A version of a page; the version 0 has none before. */
    private static final class Version {
        private final Version before;
        private final int number;
        private final Text text;
        private int rank;

        Version(Version before, int number, Text text, int rank) {
            this.before = before;
            this.number = number;
            this.text = text;
            this.rank = rank;
        }
    }

    /** A row of pieces, each with its sort, its page, and its sign: a letter, an anchor, or the argument of a call. */
    private static final class Text {
        private final int[] sorts = new int[MOST_PIECES];
        private final int[] pages = new int[MOST_PIECES];
        private final int[] signs = new int[MOST_PIECES];
        private int size = 0;
        private int openWhens = 0;

        void add(int sort, int page, int sign) {
            if (size >= MOST_PIECES) {
                return;
            }
            put(sorts, size, sort);
            put(pages, size, page);
            put(signs, size, sign);
            size++;
            if (sort == WHEN) {
                openWhens++;
            } else if (sort == END) {
                openWhens--;
            }
        }

        void clear() {
            size = 0;
            openWhens = 0;
        }

        void addAll(Text other) {
            for (int i = 0; i < other.size; i++) {
                add(other.sortOf(i), other.pageOf(i), other.signOf(i));
            }
        }

        boolean hasOpenWhen() {
            return openWhens > 0;
        }

        boolean isRedirectAlone() {
            return size == 1 && sortOf(0) == REDIRECT;
        }

        int sortOf(int i) {
            return at(sorts, i);
        }

        int pageOf(int i) {
            return at(pages, i);
        }

        int signOf(int i) {
            return at(signs, i);
        }

        /** What the letter, anchor or link at a place is as an item. */
        int itemOf(int i) {
            return sortOf(i) == LINK ? ANCHORS * pageOf(i) + signOf(i) : signOf(i);
        }
    }

    /** How often each page calls each other one, and what follows from that. */
    private static final class Net {
        private final int[] calls = new int[PAGES * PAGES];
        private final int[] ownExtents = new int[PAGES];
        private final int[] reached = new int[PAGES];
        private final int[] depths = new int[PAGES];
        private final int[] extents = new int[PAGES];

        void takeCalls(Net other) {
            for (int i = 0; i < calls.length; i++) {
                calls[i] = at(other.calls, i);
            }
            for (int page = 0; page < PAGES; page++) {
                put(ownExtents, page, at(other.ownExtents, page));
            }
        }

        void setCalls(int page, Text text) {
            for (int called = 0; called < PAGES; called++) {
                put(calls, page * PAGES + called, 0);
            }
            int ownExtent = 0;
            for (int i = 0; i < text.size; i++) {
                switch (text.sortOf(i)) {
                    case CALL:
                    case CALL_ON:
                        int called = text.pageOf(i);
                        put(calls, page * PAGES + called, callsOf(page, called) + 1);
                        break;
                    case LETTER:
                    case ARGUMENT:
                    case ANCHOR:
                    case LINK:
                        ownExtent++;
                        break;
                    default:
                        break;
                }
            }
            put(ownExtents, page, ownExtent);
        }

        void findReached() {
            for (int page = 0; page < PAGES; page++) {
                int set = 0;
                for (int called = 0; called < PAGES; called++) {
                    set |= callsOf(page, called) > 0 ? 1 << called : 0;
                }
                put(reached, page, set);
            }
            for (int over = 0; over < PAGES; over++) {
                for (int page = 0; page < PAGES; page++) {
                    if (contains(reachedFrom(page), over)) {
                        put(reached, page, reachedFrom(page) | reachedFrom(over));
                    }
                }
            }
        }

        /** For calls without a ring: the longest way has fewer calls than there are pages. */
        void findDepths() {
            for (int page = 0; page < PAGES; page++) {
                put(depths, page, 0);
            }
            for (int round = 1; round < PAGES; round++) {
                for (int page = 0; page < PAGES; page++) {
                    put(depths, page, depthOverCalled(page));
                }
            }
        }

        private int depthOverCalled(int page) {
            int depth = 0;
            for (int called = 0; called < PAGES; called++) {
                if (callsOf(page, called) > 0) {
                    depth = Math.max(depth, depthOf(called) + 1);
                }
            }
            return depth;
        }

        /** For depths that are not too great: each page comes behind those that it calls. */
        void findExtents() {
            for (int depth = 0; depth <= GREATEST_DEPTH; depth++) {
                for (int page = 0; page < PAGES; page++) {
                    if (depthOf(page) == depth) {
                        put(extents, page, extentOverCalled(page));
                    }
                }
            }
        }

        /** An extent that is too great is cut, so that no sum of such ones runs over. */
        private int extentOverCalled(int page) {
            int extent = at(ownExtents, page);
            for (int called = 0; called < PAGES; called++) {
                if (callsOf(page, called) > 0) {
                    extent += callsOf(page, called) * extentOf(called);
                }
            }
            return Math.min(extent, GREATEST_EXTENT + 1);
        }

        private int callsOf(int page, int called) {
            return at(calls, page * PAGES + called);
        }

        int reachedFrom(int page) {
            return at(reached, page);
        }

        int depthOf(int page) {
            return at(depths, page);
        }

        int extentOf(int page) {
            return at(extents, page);
        }

        int greatestDepth() {
            return greatest(depths);
        }

        int greatestExtent() {
            return greatest(extents);
        }
    }

    /**
     * All items that a page shows with some argument, kept in their order: each with what it needs (NONE: any
     * argument or none; else a letter, the one with which it is shown), its sort (ARGUMENT: the argument as a letter),
     * what it is, and its source.
     */
    private static final class Spread {
        private final int[] needs = new int[GREATEST_EXTENT];
        private final int[] sorts = new int[GREATEST_EXTENT];
        private final int[] values = new int[GREATEST_EXTENT];
        private final int[] sources = new int[GREATEST_EXTENT];
        private int size = 0;
        /** The set of the anchors that are shown with no argument: each link that leads here asks for one. */
        private int anchors = 0;
        /** What the WHENs that are open need together, the innermost last. */
        private final int[] openNeeds = new int[MOST_PIECES];
        private int openWhens = 0;

        void clear() {
            size = 0;
            anchors = 0;
            openWhens = 0;
        }

        void openWhen(int letter) {
            if (openWhens < MOST_PIECES) {
                put(openNeeds, openWhens, together(need(), letter));
                openWhens++;
            }
        }

        void closeWhen() {
            if (openWhens > 0) {
                openWhens--;
            }
        }

        int need() {
            return openWhens == 0 ? NONE : at(openNeeds, openWhens - 1);
        }

        private static int together(int need, int other) {
            if (need == NONE || need == other) {
                return other;
            }
            return other == NONE ? need : NEVER;
        }

        void add(int need, int sort, int value, int source) {
            if (need == NEVER || size >= GREATEST_EXTENT) {
                return;
            }
            put(needs, size, need);
            put(sorts, size, sort);
            put(values, size, value);
            put(sources, size, source);
            size++;
            if (need == NONE && sort == ANCHOR) {
                anchors |= 1 << value;
            }
        }

        void takeCalled(Spread called, int argument) {
            for (int i = 0; i < called.size; i++) {
                if (called.shows(i, argument)) {
                    add(need(), called.itemSort(i), called.itemWith(i, argument), called.sourceOf(i));
                }
            }
        }

        void takeCalledOn(Spread called) {
            for (int i = 0; i < called.size; i++) {
                int need = together(need(), at(called.needs, i));
                add(need, at(called.sorts, i), at(called.values, i), called.sourceOf(i));
            }
        }

        boolean shows(int i, int argument) {
            int need = at(needs, i);
            return (need == NONE || need == argument) && (argument != NONE || at(sorts, i) != ARGUMENT);
        }

        boolean showsSort(int i, int sort) {
            return shows(i, NONE) && itemSort(i) == sort;
        }

        boolean hasAnchor(int anchor) {
            return contains(anchors, anchor);
        }

        int count(int argument) {
            int count = 0;
            for (int i = 0; i < size; i++) {
                if (shows(i, argument)) {
                    count++;
                }
            }
            return count;
        }

        /** The index of the item that a page shows at a place; NONE if it shows none there. */
        int find(int argument, int place) {
            int before = 0;
            for (int i = 0; i < size; i++) {
                if (shows(i, argument)) {
                    if (before == place) {
                        return i;
                    }
                    before++;
                }
            }
            return NONE;
        }

        int itemSort(int i) {
            int sort = at(sorts, i);
            return sort == ARGUMENT ? LETTER : sort;
        }

        int itemWith(int i, int argument) {
            return at(sorts, i) == ARGUMENT ? argument : at(values, i);
        }

        int sourceOf(int i) {
            return at(sources, i);
        }
    }

    /** A walk over the items that a page shows, to the one at a place. */
    private static final class Walk {
        private int toGo;
        private int found = NONE;

        Walk(int place) {
            toGo = place;
        }

        boolean isOver() {
            return toGo < 0;
        }

        void meet(int item) {
            if (toGo == 0) {
                found = item;
            }
            toGo--;
        }
    }
}
