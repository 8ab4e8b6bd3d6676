import java.util.ArrayList;
import java.util.List;
import java.util.NoSuchElementException;

/** Long runs of calls, drawn by a fixed rule, each call's answer compared with the oracle's. */
public final class RandomRunsTest {
    private static final int RUNS = 4000;
    private static final int CALLS = 512;

    private static final String[] NAMES = {"letter", "argument", "call", "callOn", "when", "end", "anchor", "link",
        "redirect", "edit", "undo", "approve", "lock", "setRank", "version", "rankOf", "force", "reaches", "extent",
        "items", "sortAt", "itemAt", "itemAnew", "sourceAt", "standsFor", "links", "broken", "firstBroken",
        "linkedFrom", "breaches", "breached"};
    private static final int EDIT = 9, UNDO = 10, APPROVE = 11, LOCK = 12, SET_RANK = 13, VERSION = 14;
    private static final int FORCE = 16, EXTENT = 18;
    private static final int ITEMS = 19, SORT_AT = 20, SOURCE_AT = 23, STANDS_FOR = 24, LINKS = 25;
    private static final int BREACHES = 29, BREACHED = 30;

    /** How an exception counts as an answer. */
    private static final long THROWS = 1000000L;

    private static final Check C = new Check();
    private static final long[] SEEN = new long[NAMES.length * 16];

    /** What a run leans to; 0: to nothing. */
    private static final int CHAINS = 1, LINKS_ALONE = 2, LOCKS = 3;

    private long state;
    private final MacroWiki wiki = new MacroWiki();
    private final Oracle oracle = new Oracle();
    private final List<String> told = new ArrayList<>();
    private boolean right = true;
    private int letters;
    private int callShare;
    private int whenShare;
    private int linkShare;
    private int longest;
    private int downShare;
    private int wrongShare;
    private int pages;
    private int style;

    private RandomRunsTest(long seed) {
        state = seed * 0x9E3779B97F4A7C15L + 0x1234567;
        letters = 1 + draw(4);
        callShare = draw(50);
        whenShare = draw(25);
        linkShare = draw(50);
        longest = 1 + draw(draw(2) == 0 ? 30 : 6);
        downShare = 60 + draw(41);
        wrongShare = draw(6);
        pages = 2 + draw(11);
        style = draw(4);
        if (style == CHAINS) {
            callShare = 30 + draw(60);
            longest = 1 + draw(3);
            downShare = 100;
            pages = 8 + draw(5);
        } else if (style == LINKS_ALONE) {
            callShare = draw(20);
            whenShare = draw(5);
            linkShare = 60 + draw(41);
            letters = 1 + draw(3);
        } else if (style == LOCKS) {
            callShare = 10 + draw(40);
            longest = 1 + draw(4);
        }
    }

    public static void main(String[] arguments) {
        for (int run = 0; run < RUNS; run++) {
            new RandomRunsTest(run).run();
        }
        enoughSeen();
        C.end("RandomRunsTest");
    }

    private void run() {
        int ranked = style == LOCKS ? 1 : style == CHAINS ? 2 : draw(3);
        for (int user = 0; ranked > 0 && user < 6; user++) {
            ask(SET_RANK, user, ranked == 1 ? 3 - user % 4 : 3, 0);
        }
        while (told.size() < CALLS && right && !isStuck()) {
            int kind = draw(100);
            if (kind < 30) {
                layText();
            } else if (kind < 37) {
                ask(UNDO, draw(6), page(), 0);
            } else if (kind < 42) {
                ask(APPROVE, draw(6), page(), 0);
            } else if (kind < (style == CHAINS ? 43 : 47)) {
                ask(LOCK, draw(6), page(), draw(4), 0);
            } else if (kind < 50) {
                ask(SET_RANK, draw(6), draw(4), 0);
            } else if (kind < 50 + wrongShare) {
                wrong();
            } else {
                question();
            }
        }
    }

    /** Adds pieces to the draft and edits a page, as a rule one above those that it calls. */
    private void layText() {
        int edited = page();
        int pieces = draw(12) == 0 ? 31 : draw(longest + 1);
        if (linkShare > 0 && draw(5) == 0) {
            ask(8, page(), 0, 0);
            pieces = draw(8) == 0 ? 1 : 0;
        } else if (callShare > 10 && draw(8) == 0) {
            int called = callee(edited);
            int times = draw(20);
            for (int i = 0; i < times; i++) {
                ask(draw(2) == 0 ? 3 : 2, called, draw(letters + 1) - 1, 0);
            }
            pieces = draw(3);
        }
        boolean reckless = draw(200) == 0;
        for (int i = 0; i < pieces; i++) {
            boolean ends = oracle.open() > 0 && (draw(3) == 0 || oracle.drafted() + oracle.open() >= 29);
            if (ends && !reckless) {
                ask(5, 0, 0, 0);
            } else if (draw(100) < whenShare) {
                ask(4, draw(letters), 0, 0);
            } else {
                piece(edited);
            }
        }
        int most = draw(60) == 0 ? 1 : 30;
        for (int i = 0; i < most && oracle.open() > 0 && !isStuck(); i++) {
            ask(5, 0, 0, 0);
        }
        ask(EDIT, draw(6), edited, 0);
    }

    /** A draft that can be neither closed nor edited has nothing more to show. */
    private boolean isStuck() {
        return oracle.open() > 0 && oracle.drafted() == 30 && draw(3) == 0;
    }

    private void piece(int edited) {
        if (draw(100) < callShare) {
            int called = callee(edited);
            ask(draw(2) == 0 ? 3 : 2, called, draw(letters + 1) - 1, 0);
        } else if (draw(100) < linkShare) {
            int kind = draw(9);
            ask(kind < 4 ? 6 : kind < 8 ? 7 : 8, kind < 4 ? draw(letters) : page(), draw(letters), 0);
        } else {
            ask(draw(3) == 0 ? 1 : 0, draw(letters), 0, 0);
        }
    }

    private int callee(int edited) {
        return edited > 0 && draw(100) < downShare ? edited - 1 - draw(draw(edited) + 1) : page();
    }

    private void question() {
        int op = VERSION + draw(NAMES.length - VERSION);
        if (style == LINKS_ALONE && draw(2) == 0) {
            op = STANDS_FOR + draw(5);
        } else if (style == LOCKS && draw(2) == 0) {
            op = draw(3) == 0 ? BREACHED : draw(3) == 0 ? FORCE : BREACHES;
        }
        int letter = draw(letters + 2) - 1;
        int place = draw(draw(4) == 0 ? 101 : 8);
        ask(op, op == BREACHES && draw(2) == 0 ? breachedPage() : page(), letter, place);
        if (op >= SORT_AT && op <= SOURCE_AT) {
            int page = page();
            int shown = oracle.items(page, letter);
            for (int other = SORT_AT; other <= SOURCE_AT && shown > 0; other++) {
                ask(other, page, letter, draw(6) == 0 ? shown - draw(2) : draw(shown));
            }
        }
    }

    private int breachedPage() {
        for (int page = 0; page < pages; page++) {
            if (oracle.breaches(page) > 0) {
                return page;
            }
        }
        return page();
    }

    private void wrong() {
        int op = draw(NAMES.length);
        int[] odd = {-1, -2, 3, 4, 5, 6, 9, 10, 11, 12, 25, 26, Integer.MIN_VALUE, Integer.MAX_VALUE};
        int first = draw(2) == 0 ? page() : odd[draw(odd.length)];
        int second = draw(2) == 0 ? draw(4) : odd[draw(odd.length)];
        int third = draw(2) == 0 ? draw(4) : odd[draw(odd.length)];
        ask(op, first, second, third);
    }

    private int page() {
        return draw(pages);
    }

    private void ask(int op, int a, int b, int c, int... none) {
        if (told.size() >= CALLS || !right) {
            return;
        }
        long want = answer(() -> askOracle(op, a, b, c));
        long got = answer(() -> askWiki(op, a, b, c));
        told.add(NAMES[op] + "(" + a + ", " + b + ", " + c + ") " + got);
        right = want == got;
        C.is(want, got, "the last of " + (right ? "" : told.toString()) + ":");
        count(op, want);
    }

    private static void count(int op, long answer) {
        int kind = answer >= THROWS ? (int) (answer - THROWS) : answer < 0 ? (int) -answer + 4 : answer > 0 ? 11 : 12;
        SEEN[op * 16 + kind]++;
    }

    private int draw(int bound) {
        state = state * 6364136223846793005L + 1442695040888963407L;
        return (int) ((state >>> 33) % bound);
    }

    private interface Asked {
        long answer();
    }

    private static long answer(Asked asked) {
        try {
            return asked.answer();
        } catch (RuntimeException thrown) {
            return THROWS + exception(thrown.getClass());
        }
    }

    private static int exception(Class<?> thrown) {
        return thrown == IndexOutOfBoundsException.class ? 1
            : thrown == IllegalArgumentException.class ? 2
            : thrown == IllegalStateException.class ? 3
            : thrown == NoSuchElementException.class ? 4 : 0;
    }

    private long askWiki(int op, int a, int b, int c) {
        return switch (op) {
            case 0 -> wiki.letter(a);
            case 1 -> wiki.argument();
            case 2 -> wiki.call(a, b);
            case 3 -> wiki.callOn(a);
            case 4 -> wiki.when(a);
            case 5 -> wiki.end();
            case 6 -> wiki.anchor(a);
            case 7 -> wiki.link(a, b);
            case 8 -> wiki.redirect(a);
            case EDIT -> wiki.edit(a, b);
            case UNDO -> wiki.undo(a, b);
            case APPROVE -> wiki.approve(a, b) ? 1 : 0;
            case LOCK -> wiki.lock(a, b, c);
            case SET_RANK -> wiki.setRank(a, b);
            case VERSION -> wiki.version(a);
            case 15 -> wiki.rankOf(a);
            case FORCE -> wiki.force(a);
            case 17 -> wiki.reaches(a);
            case EXTENT -> wiki.extent(a);
            case ITEMS -> wiki.items(a, b);
            case SORT_AT -> wiki.sortAt(a, b, c);
            case 21 -> wiki.itemAt(a, b, c);
            case 22 -> wiki.itemAnew(a, b, c);
            case SOURCE_AT -> wiki.sourceAt(a, b, c);
            case STANDS_FOR -> wiki.standsFor(a);
            case LINKS -> wiki.links(a);
            case 26 -> wiki.broken(a);
            case 27 -> wiki.firstBroken(a);
            case 28 -> wiki.linkedFrom(a);
            case BREACHES -> wiki.breaches(a);
            default -> wiki.breached();
        };
    }

    private long askOracle(int op, int a, int b, int c) {
        return switch (op) {
            case 0 -> oracle.letter(a);
            case 1 -> oracle.argument();
            case 2 -> oracle.call(a, b);
            case 3 -> oracle.callOn(a);
            case 4 -> oracle.when(a);
            case 5 -> oracle.end();
            case 6 -> oracle.anchor(a);
            case 7 -> oracle.link(a, b);
            case 8 -> oracle.redirect(a);
            case EDIT -> oracle.edit(a, b);
            case UNDO -> oracle.undo(a, b);
            case APPROVE -> oracle.approve(a, b) ? 1 : 0;
            case LOCK -> oracle.lock(a, b, c);
            case SET_RANK -> oracle.setRank(a, b);
            case VERSION -> oracle.version(a);
            case 15 -> oracle.rankOf(a);
            case FORCE -> oracle.force(a);
            case 17 -> oracle.reaches(a);
            case EXTENT -> oracle.extent(a);
            case ITEMS -> oracle.items(a, b);
            case SORT_AT -> oracle.item(a, b, c).sort();
            case 21, 22 -> oracle.item(a, b, c).value();
            case SOURCE_AT -> oracle.item(a, b, c).source();
            case STANDS_FOR -> oracle.standsFor(a);
            case LINKS -> oracle.links(a);
            case 26 -> oracle.broken(a);
            case 27 -> oracle.firstBroken(a);
            case 28 -> oracle.linkedFrom(a);
            case BREACHES -> oracle.breaches(a);
            default -> oracle.breached();
        };
    }

    /** The runs are worth nothing where they never come to a refusal, an exception or an answer that is not 0. */
    private static void enoughSeen() {
        String[] kinds = {"another exception", "IndexOutOfBounds", "IllegalArgument", "IllegalState", "NoSuchElement",
            "NONE", "LOCKED", "RING", "DEEP", "LONG", "REACH", "above 0", "0"};
        for (int op = 0; op < NAMES.length; op++) {
            StringBuilder row = new StringBuilder(NAMES[op]);
            for (int kind = 0; kind < kinds.length; kind++) {
                long seen = SEEN[op * 16 + kind];
                if (seen > 0) {
                    row.append(", ").append(kinds[kind]).append(' ').append(seen);
                }
            }
            System.out.println(row);
            C.is(true, SEEN[op * 16 + 11] > 500, NAMES[op] + " answered above 0 often");
        }
        for (int refusal = 6; refusal <= 10; refusal++) {
            C.is(true, SEEN[EDIT * 16 + refusal] > 100, "edit answered " + kinds[refusal] + " often");
            C.is(true, SEEN[UNDO * 16 + refusal] > 20, "undo answered " + kinds[refusal] + " often");
        }
        C.is(true, SEEN[STANDS_FOR * 16 + 5] > 100, "standsFor answered NONE often");
        C.is(true, SEEN[BREACHED * 16 + 11] > 100, "breached answered above 0 often");
    }
}
