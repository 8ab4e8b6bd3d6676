import java.util.NoSuchElementException;

/** Each promise: ordinary inputs, the edges that the document names, and wrong inputs. */
public final class PromisesTest {
    private static final int NONE = MacroWiki.NONE;
    private static final int LOCKED = MacroWiki.LOCKED, RING = MacroWiki.RING, DEEP = MacroWiki.DEEP;
    private static final int LONG = MacroWiki.LONG, REACH = MacroWiki.REACH;
    private static final int LETTER = MacroWiki.LETTER, ANCHOR = MacroWiki.ANCHOR, LINK = MacroWiki.LINK;

    private static final Class<IndexOutOfBoundsException> NO_SUCH = IndexOutOfBoundsException.class;
    private static final Class<IllegalArgumentException> RANGE = IllegalArgumentException.class;
    private static final Class<IllegalStateException> STATE = IllegalStateException.class;
    private static final Class<NoSuchElementException> NO_ITEM = NoSuchElementException.class;

    private static final int[] NO_PAGES = {-1, 12, 13, Integer.MIN_VALUE, Integer.MAX_VALUE};
    private static final int[] NO_USERS = {-1, 6, 7, Integer.MIN_VALUE, Integer.MAX_VALUE};
    private static final int[] NO_LETTERS = {-2, 26, 27, Integer.MIN_VALUE, Integer.MAX_VALUE};
    private static final int[] NO_ANCHORS = {-1, 10, 11, Integer.MIN_VALUE, Integer.MAX_VALUE};
    private static final int[] NO_RANKS = {-1, 4, 5, Integer.MIN_VALUE, Integer.MAX_VALUE};

    private static final Check C = new Check();

    /** A question about a page that has no other argument. */
    private interface Question {
        int ask(MacroWiki x, int page);
    }

    /** A question about an item of a page. */
    private interface ItemQuestion {
        int ask(MacroWiki x, int page, int letter, int place);
    }

    public static void main(String[] arguments) {
        promise1();
        promise2();
        promise3();
        promise4();
        promise5();
        promise6();
        promise7();
        promise8();
        promise9();
        promise10();
        promise11();
        promise11Locked();
        promise11Ring();
        promise11Deep();
        promise11Long();
        promise11Reach();
        promise11Order();
        promise12();
        promise12Refused();
        promise12Ranks();
        promise13();
        promise14();
        promise15();
        promises16To20();
        promise18();
        promise19();
        promise20();
        promises21To25();
        whensAround();
        wrongItems();
        promise26();
        promises27To29();
        promise30();
        promises31And32();
        manyEmptyCalls();
        C.end("PromisesTest");
    }

    private static void promise1() {
        MacroWiki x = new MacroWiki();
        for (int page = 0; page < 12; page++) {
            C.is(0, x.version(page), "version of a new page");
            C.is(3, x.rankOf(page), "rankOf a new page");
            C.is(0, x.force(page), "force of a new page");
            C.is(0, x.reaches(page), "reaches of a new page");
            C.is(0, x.extent(page), "extent of a new page");
            C.is(0, x.items(page, NONE), "items of a new page with none");
            C.is(0, x.items(page, 25), "items of a new page with 25");
            C.is(page, x.standsFor(page), "standsFor of a new page");
            C.is(0, x.links(page), "links of a new page");
            C.is(0, x.broken(page), "broken of a new page");
            C.is(NONE, x.firstBroken(page), "firstBroken of a new page");
            C.is(0, x.linkedFrom(page), "linkedFrom of a new page");
            C.is(0, x.breaches(page), "breaches of a new page");
            C.is(0, x.lock(5, page, 0), "the lock of a new page");
        }
        C.is(0, x.breached(), "breached of a new wiki");
        for (int user = 0; user < 6; user++) {
            C.is(0, x.setRank(user, 3), "the rank of a new user");
        }
        C.is(1, x.letter(0), "the first piece");
        MacroWiki other = new MacroWiki();
        C.is(1, other.letter(0), "the first piece of another wiki");
        C.is(0, other.setRank(0, 0), "the rank of a user of another wiki");
    }

    private static void promise2() {
        MacroWiki x = new MacroWiki();
        C.is(1, x.letter(0), "letter(0)");
        C.is(2, x.letter(25), "letter(25)");
        for (int letter : new int[] {-1, -2, 26, Integer.MIN_VALUE, Integer.MAX_VALUE}) {
            C.fails(RANGE, () -> x.letter(letter), "letter(" + letter + ")");
        }
        C.is(3, x.letter(13), "letter(13) behind wrong ones");
        for (int pieces = 4; pieces <= 30; pieces++) {
            C.is(pieces, x.letter(1), "letter(1)");
        }
        C.fails(STATE, () -> x.letter(1), "letter(1) to 30 pieces");
        C.fails(RANGE, () -> x.letter(26), "letter(26) to 30 pieces");
        C.is(1, x.edit(0, 0), "edit with 30 letters");
        C.is(30, x.items(0, NONE), "items");
        shows(x, 0, NONE, 0, LETTER, 0, 0);
        shows(x, 0, 7, 1, LETTER, 25, 0);
        shows(x, 0, 7, 2, LETTER, 13, 0);
    }

    private static void promise3() {
        MacroWiki x = new MacroWiki();
        C.is(1, x.argument(), "argument()");
        fillTo(x, 29);
        C.is(30, x.argument(), "argument() as the 30th");
        C.fails(STATE, x::argument, "argument() to 30 pieces");
        x.edit(0, 3);
        C.is(28, x.items(3, NONE), "items with none");
        C.is(30, x.items(3, 0), "items with 0");
        shows(x, 3, 25, 0, LETTER, 25, 3);
        shows(x, 3, 0, 29, LETTER, 0, 3);
    }

    private static void promise4() {
        MacroWiki x = new MacroWiki();
        C.is(1, x.call(0, NONE), "call(0, NONE)");
        C.is(2, x.call(11, 0), "call(11, 0)");
        C.is(3, x.call(11, 25), "call(11, 25)");
        for (int page : NO_PAGES) {
            C.fails(NO_SUCH, () -> x.call(page, 0), "call(" + page + ", 0)");
            C.fails(NO_SUCH, () -> x.call(page, 26), "call(" + page + ", 26)");
        }
        for (int letter : NO_LETTERS) {
            C.fails(RANGE, () -> x.call(0, letter), "call(0, " + letter + ")");
        }
        C.is(4, x.letter(9), "letter(9) behind wrong calls");
        fillTo(x, 30);
        C.fails(STATE, () -> x.call(0, 0), "call(0, 0) to 30 pieces");
        C.fails(RANGE, () -> x.call(0, 26), "call(0, 26) to 30 pieces");
        C.fails(NO_SUCH, () -> x.call(12, 26), "call(12, 26) to 30 pieces");
        C.is(1, x.edit(0, 1), "edit");
        x.argument();
        x.letter(7);
        x.edit(0, 0);
        x.argument();
        x.edit(0, 11);
        C.is(1 + 2 + 27, x.items(1, NONE), "items with none");
        C.is(1 + 2 + 27, x.items(1, 5), "items with a letter, which the calls do not hand on");
        shows(x, 1, 5, 0, LETTER, 7, 0);
        shows(x, 1, 5, 1, LETTER, 0, 11);
        shows(x, 1, 5, 2, LETTER, 25, 11);
        shows(x, 1, 5, 3, LETTER, 9, 1);
    }

    private static void promise5() {
        MacroWiki x = new MacroWiki();
        C.is(1, x.callOn(0), "callOn(0)");
        C.is(2, x.callOn(11), "callOn(11)");
        for (int page : NO_PAGES) {
            C.fails(NO_SUCH, () -> x.callOn(page), "callOn(" + page + ")");
        }
        C.is(3, x.letter(2), "letter(2) behind wrong calls");
        x.edit(0, 1);
        x.argument();
        x.edit(0, 0);
        C.is(1, x.items(1, NONE), "callOn with none");
        C.is(2, x.items(1, 4), "callOn with a letter");
        shows(x, 1, 4, 0, LETTER, 4, 0);
        shows(x, 1, 4, 1, LETTER, 2, 1);
        fillTo(x, 30);
        C.fails(STATE, () -> x.callOn(0), "callOn(0) to 30 pieces");
        C.fails(NO_SUCH, () -> x.callOn(12), "callOn(12) to 30 pieces");
    }

    private static void promise6() {
        MacroWiki x = new MacroWiki();
        C.is(1, x.when(0), "when(0)");
        for (int letter : new int[] {-1, -2, 26, Integer.MIN_VALUE, Integer.MAX_VALUE}) {
            C.fails(RANGE, () -> x.when(letter), "when(" + letter + ")");
        }
        C.is(2, x.letter(1), "letter(1)");
        C.is(3, x.end(), "end()");
        C.fails(STATE, x::end, "end() behind a wrong when");
        C.is(4, x.when(25), "when(25)");
        C.is(5, x.letter(2), "letter(2)");
        C.is(6, x.end(), "end()");
        C.is(7, x.letter(3), "letter(3)");
        C.is(1, x.edit(0, 0), "edit");
        C.is(1, x.items(0, NONE), "items with none");
        C.is(1, x.items(0, 1), "items with 1");
        shows(x, 0, 0, 0, LETTER, 1, 0);
        shows(x, 0, 0, 1, LETTER, 3, 0);
        shows(x, 0, 25, 0, LETTER, 2, 0);
        C.is(3, x.extent(0), "extent, with what is left out");
        fillTo(x, 30);
        C.fails(STATE, () -> x.when(0), "when(0) to 30 pieces");
        C.fails(RANGE, () -> x.when(26), "when(26) to 30 pieces");
    }

    private static void promise7() {
        MacroWiki x = new MacroWiki();
        C.fails(STATE, x::end, "end() of an empty draft");
        x.when(1);
        x.when(2);
        C.is(3, x.end(), "end() of the second");
        C.is(4, x.end(), "end() of the first");
        C.fails(STATE, x::end, "end() with no WHEN open");
        C.is(5, x.letter(0), "letter(0) behind a wrong end");
        C.is(1, x.edit(0, 0), "edit with all closed");
        C.fails(STATE, x::end, "end() of the draft emptied");
        x.when(3);
        fillTo(x, 30);
        C.fails(STATE, x::end, "end() to 30 pieces with a WHEN open");
        C.fails(STATE, () -> x.edit(0, 0), "edit with a WHEN open for ever");
        MacroWiki y = new MacroWiki();
        y.when(3);
        fillTo(y, 29);
        C.is(30, y.end(), "end() as the 30th");
        C.is(1, y.edit(0, 0), "edit with the END as the 30th");
        C.is(0, y.items(0, NONE), "items with none");
        C.is(28, y.items(0, 3), "items with 3");
    }

    private static void promise8() {
        MacroWiki x = new MacroWiki();
        C.is(1, x.anchor(0), "anchor(0)");
        C.is(2, x.anchor(9), "anchor(9)");
        for (int anchor : NO_ANCHORS) {
            C.fails(RANGE, () -> x.anchor(anchor), "anchor(" + anchor + ")");
        }
        C.is(3, x.anchor(5), "anchor(5)");
        x.edit(0, 2);
        shows(x, 2, NONE, 0, ANCHOR, 0, 2);
        shows(x, 2, 3, 1, ANCHOR, 9, 2);
        shows(x, 2, 3, 2, ANCHOR, 5, 2);
        fillTo(x, 30);
        C.fails(STATE, () -> x.anchor(0), "anchor(0) to 30 pieces");
        C.fails(RANGE, () -> x.anchor(10), "anchor(10) to 30 pieces");
    }

    private static void promise9() {
        MacroWiki x = new MacroWiki();
        C.is(1, x.link(0, 0), "link(0, 0)");
        C.is(2, x.link(11, 9), "link(11, 9)");
        for (int page : NO_PAGES) {
            C.fails(NO_SUCH, () -> x.link(page, 0), "link(" + page + ", 0)");
            C.fails(NO_SUCH, () -> x.link(page, 10), "link(" + page + ", 10)");
        }
        for (int anchor : NO_ANCHORS) {
            C.fails(RANGE, () -> x.link(0, anchor), "link(0, " + anchor + ")");
        }
        C.is(3, x.link(3, 4), "link(3, 4)");
        x.edit(0, 2);
        shows(x, 2, NONE, 0, LINK, 0, 2);
        shows(x, 2, 8, 1, LINK, 119, 2);
        shows(x, 2, NONE, 2, LINK, 34, 2);
        C.is(0, x.reaches(2), "a link is no call");
        fillTo(x, 30);
        C.fails(STATE, () -> x.link(0, 0), "link(0, 0) to 30 pieces");
        C.fails(RANGE, () -> x.link(0, 10), "link(0, 10) to 30 pieces");
        C.fails(NO_SUCH, () -> x.link(12, 10), "link(12, 10) to 30 pieces");
    }

    private static void promise10() {
        MacroWiki x = new MacroWiki();
        C.is(1, x.redirect(0), "redirect(0)");
        C.is(2, x.redirect(11), "redirect(11)");
        for (int page : NO_PAGES) {
            C.fails(NO_SUCH, () -> x.redirect(page), "redirect(" + page + ")");
        }
        C.is(3, x.letter(6), "letter(6)");
        x.edit(0, 2);
        C.is(1, x.items(2, NONE), "a redirect shows nothing");
        C.is(1, x.extent(2), "a redirect has no extent");
        C.is(0, x.reaches(2), "a redirect is no call");
        fillTo(x, 30);
        C.fails(STATE, () -> x.redirect(0), "redirect(0) to 30 pieces");
        C.fails(NO_SUCH, () -> x.redirect(12), "redirect(12) to 30 pieces");
    }

    private static void promise11() {
        MacroWiki x = new MacroWiki();
        C.is(1, x.edit(0, 0), "edit with an empty draft");
        C.is(0, x.rankOf(0), "the rank of the new version");
        C.is(2, x.edit(5, 0), "edit by the last user");
        C.is(1, x.edit(5, 11), "edit of the last page");
        x.letter(1);
        for (int user : NO_USERS) {
            C.fails(NO_SUCH, () -> x.edit(user, 0), "edit(" + user + ", 0)");
        }
        for (int page : NO_PAGES) {
            C.fails(NO_SUCH, () -> x.edit(0, page), "edit(0, " + page + ")");
        }
        C.is(2, x.letter(2), "the draft stands behind wrong edits");
        C.is(3, x.when(1), "when(1)");
        C.fails(STATE, () -> x.edit(0, 0), "edit with a WHEN open");
        C.fails(NO_SUCH, () -> x.edit(6, 0), "edit(6, 0) with a WHEN open");
        C.fails(NO_SUCH, () -> x.edit(0, 12), "edit(0, 12) with a WHEN open");
        C.is(4, x.end(), "the draft stands behind a wrong edit");
        C.is(3, x.edit(0, 0), "edit");
        C.is(2, x.items(0, NONE), "items");
        C.is(1, x.letter(3), "the draft is empty behind an edit");
        for (int version = 4; version <= 20; version++) {
            C.is(version, x.edit(0, 0), "edit");
        }
        C.is(20, x.version(0), "version");
        C.is(1, x.letter(4), "letter(4)");
        C.fails(STATE, () -> x.edit(0, 0), "edit of a page with 20 versions");
        C.is(20, x.version(0), "version");
        C.is(2, x.letter(5), "the draft stands behind an edit of a page with 20 versions");
        x.setRank(1, 1);
        x.lock(1, 0, 1);
        C.fails(STATE, () -> x.edit(0, 0), "edit of a locked page with 20 versions");
        C.is(LOCKED, x.undo(1, 0), "undo to a version that ranks below the force");
        C.is(1, x.lock(1, 0, 0), "lock");
        C.is(19, x.undo(0, 0), "undo");
        C.is(20, x.edit(0, 0), "edit again");
    }

    private static void promise11Locked() {
        MacroWiki x = new MacroWiki();
        x.setRank(2, 2);
        x.setRank(3, 3);
        x.lock(2, 4, 2);
        x.letter(1);
        C.is(LOCKED, x.edit(0, 4), "edit below the lock");
        C.is(0, x.version(4), "version");
        C.is(1, x.letter(1), "the draft is empty behind a refused edit");
        C.is(1, x.edit(2, 4), "edit at the lock");
        x.call(5, NONE);
        x.edit(3, 4);
        C.is(LOCKED, x.edit(0, 5), "edit of a page that a locked one calls");
        x.callOn(6);
        C.is(1, x.edit(2, 5), "edit of it at the force");
        C.is(LOCKED, x.edit(0, 6), "edit of a page that a locked one reaches");
        C.is(1, x.edit(0, 7), "edit of another page");
        x.edit(2, 5);
        C.is(1, x.edit(0, 6), "edit of a page that it reaches no more");
        x.call(0, NONE);
        x.call(6, NONE);
        C.is(REACH, x.edit(2, 5), "edit that would reach it again");
    }

    private static void promise11Ring() {
        MacroWiki x = new MacroWiki();
        x.call(3, NONE);
        C.is(RING, x.edit(0, 3), "a page that calls itself");
        C.is(0, x.version(3), "version");
        C.is(1, x.letter(0), "the draft is empty behind it");
        x.edit(0, 0);
        x.when(1);
        x.callOn(3);
        x.end();
        C.is(RING, x.edit(0, 3), "a page that calls itself in a WHEN");
        x.call(4, NONE);
        C.is(1, x.edit(0, 3), "3 calls 4");
        x.call(5, 1);
        C.is(1, x.edit(0, 4), "4 calls 5");
        x.when(2);
        x.when(3);
        x.call(3, NONE);
        x.end();
        x.end();
        C.is(RING, x.edit(0, 5), "5 calls 3, where it is never shown");
        x.redirect(3);
        C.is(1, x.edit(0, 5), "5 redirects to 3");
        x.link(3, 0);
        C.is(2, x.edit(0, 5), "5 links to 3");
    }

    private static void promise11Deep() {
        MacroWiki x = new MacroWiki();
        for (int page = 1; page <= 5; page++) {
            x.call(page - 1, NONE);
            C.is(1, x.edit(0, page), "a chain of calls");
        }
        x.call(5, NONE);
        C.is(DEEP, x.edit(0, 6), "a page of the depth 6");
        x.call(4, NONE);
        C.is(1, x.edit(0, 6), "a page of the depth 5");
        x.call(7, NONE);
        C.is(DEEP, x.edit(0, 0), "a page that would make others too deep");
        C.is(1, x.letter(0), "the draft is empty behind it");
        x.edit(0, 0);
        x.call(8, NONE);
        x.edit(0, 7);
        x.when(0);
        x.call(7, NONE);
        x.end();
        C.is(DEEP, x.edit(0, 1), "the deeper of two calls, in a WHEN");
        x.call(0, NONE);
        x.call(8, NONE);
        C.is(2, x.edit(0, 1), "two calls as deep");
    }

    private static void promise11Long() {
        MacroWiki x = new MacroWiki();
        fillTo(x, 10);
        x.edit(0, 0);
        calls(x, 0, 10);
        C.is(1, x.edit(0, 1), "a page of the extent 100");
        calls(x, 0, 10);
        x.argument();
        C.is(LONG, x.edit(0, 2), "a page of the extent 101");
        C.is(0, x.version(2), "version");
        calls(x, 0, 10);
        x.redirect(0);
        x.when(1);
        x.end();
        C.is(1, x.edit(0, 2), "redirects and WHENs have no extent");
        calls(x, 0, 10);
        x.when(1);
        x.anchor(1);
        x.end();
        C.is(LONG, x.edit(0, 2), "what is left out has an extent");
        fillTo(x, 11);
        C.is(LONG, x.edit(0, 0), "a page that would make others too long");
        C.is(1, x.letter(0), "the draft is empty behind it");
        x.edit(0, 5);
    }

    private static void promise11Reach() {
        MacroWiki x = new MacroWiki();
        x.setRank(1, 1);
        x.setRank(2, 2);
        x.setRank(3, 3);
        x.letter(1);
        x.edit(1, 5);
        x.lock(2, 6, 2);
        x.call(5, NONE);
        C.is(REACH, x.edit(2, 6), "a call of a page whose rank is below the force");
        C.is(0, x.version(6), "version");
        C.is(1, x.letter(0), "the draft is empty behind it");
        x.edit(0, 0);
        x.call(5, NONE);
        x.edit(1, 7);
        x.when(0);
        x.call(7, NONE);
        x.end();
        C.is(REACH, x.edit(2, 6), "a call in a WHEN");
        x.approve(3, 7);
        x.call(7, NONE);
        C.is(REACH, x.edit(2, 6), "a call that reaches such a page over another");
        x.approve(2, 5);
        x.call(7, NONE);
        C.is(1, x.edit(2, 6), "a call of pages that are approved");
        C.is(160, x.reaches(6), "reaches");
        x.lock(3, 6, 3);
        x.letter(2);
        x.callOn(5);
        x.call(7, NONE);
        C.is(2, x.edit(3, 6), "a page that had been reached ahead of the edit");
        C.is(3, x.edit(3, 6), "an empty text");
        x.call(5, NONE);
        C.is(REACH, x.edit(3, 6), "a page that is reached no more, and would be again");
        x.call(8, NONE);
        C.is(4, x.edit(3, 6), "the version 0 ranks 3");
        x.call(5, NONE);
        C.is(REACH, x.edit(3, 8), "the force that comes from a page that calls this one");
    }

    private static void promise11Order() {
        MacroWiki x = new MacroWiki();
        x.setRank(3, 3);
        fillTo(x, 30);
        x.edit(0, 0);
        for (int page = 1; page <= 5; page++) {
            x.call(page == 1 ? 11 : page - 1, NONE);
            x.edit(0, page);
        }
        x.lock(3, 6, 3);
        x.call(6, NONE);
        calls(x, 0, 4);
        x.call(5, NONE);
        C.is(LOCKED, x.edit(0, 6), "LOCKED comes first");
        x.call(6, NONE);
        calls(x, 0, 4);
        x.call(5, NONE);
        C.is(RING, x.edit(3, 6), "RING comes second");
        calls(x, 0, 4);
        x.call(5, NONE);
        C.is(DEEP, x.edit(3, 6), "DEEP comes third");
        calls(x, 0, 4);
        C.is(LONG, x.edit(3, 6), "LONG comes fourth");
        calls(x, 0, 3);
        C.is(REACH, x.edit(3, 6), "REACH comes last");
        C.is(0, x.version(6), "version");
    }

    private static void promise12() {
        MacroWiki x = new MacroWiki();
        C.fails(STATE, () -> x.undo(0, 0), "undo of the version 0");
        for (int user : NO_USERS) {
            C.fails(NO_SUCH, () -> x.undo(user, 0), "undo(" + user + ", 0)");
        }
        for (int page : NO_PAGES) {
            C.fails(NO_SUCH, () -> x.undo(0, page), "undo(0, " + page + ")");
        }
        x.letter(1);
        x.edit(0, 0);
        x.setRank(1, 1);
        x.letter(2);
        x.call(1, NONE);
        x.edit(1, 0);
        C.is(1, x.rankOf(0), "rankOf the second version");
        x.letter(3);
        x.when(4);
        C.is(1, x.undo(5, 0), "undo with a WHEN of the draft open");
        C.is(0, x.rankOf(0), "rankOf the first version");
        C.is(0, x.reaches(0), "reaches");
        C.is(1, x.items(0, NONE), "items");
        shows(x, 0, NONE, 0, LETTER, 1, 0);
        C.is(3, x.end(), "the draft stays as it is");
        C.is(2, x.edit(0, 0), "the number of a version comes again");
        C.is(0, x.rankOf(0), "with its own rank");
        shows(x, 0, NONE, 0, LETTER, 3, 0);
        C.is(1, x.undo(0, 0), "undo");
        C.is(0, x.undo(0, 0), "undo to the version 0");
        C.is(3, x.rankOf(0), "rankOf the version 0");
        C.is(0, x.items(0, NONE), "items of the version 0");
        C.fails(STATE, () -> x.undo(0, 0), "undo of the version 0");
        x.setRank(3, 3);
        x.lock(3, 0, 3);
        C.fails(STATE, () -> x.undo(0, 0), "undo of the version 0 of a locked page");
    }

    private static void promise12Refused() {
        MacroWiki x = new MacroWiki();
        x.call(1, NONE);
        x.edit(0, 0);
        x.edit(0, 0);
        x.call(0, NONE);
        C.is(1, x.edit(0, 1), "1 calls 0");
        x.letter(5);
        C.is(RING, x.undo(0, 0), "undo to a ring");
        C.is(2, x.version(0), "nothing is dropped");
        C.is(2, x.letter(5), "the draft stays as it is");
        MacroWiki y = new MacroWiki();
        y.call(1, NONE);
        y.edit(0, 0);
        y.edit(0, 0);
        for (int page = 1; page <= 5; page++) {
            y.call(page + 1, NONE);
            y.edit(0, page);
        }
        C.is(DEEP, y.undo(0, 0), "undo to what is too deep");
        C.is(0, y.undo(0, 5), "undo of what made it too deep");
        C.is(1, y.undo(0, 0), "undo to what is not too deep any more");
        MacroWiki z = new MacroWiki();
        calls(z, 1, 11);
        z.edit(0, 0);
        z.edit(0, 0);
        fillTo(z, 10);
        z.edit(0, 1);
        C.is(LONG, z.undo(0, 0), "undo to what is too long");
        C.is(2, z.version(0), "nothing is dropped");
        fillTo(z, 9);
        z.edit(0, 1);
        C.is(1, z.undo(0, 0), "undo to what is long enough");
        C.is(99, z.extent(0), "extent");
        C.is(LONG, z.undo(0, 1), "undo that would make another page too long");
    }

    private static void promise12Ranks() {
        MacroWiki x = new MacroWiki();
        x.setRank(1, 1);
        x.setRank(2, 2);
        x.setRank(3, 3);
        x.letter(1);
        x.edit(1, 0);
        x.letter(2);
        x.edit(2, 0);
        x.letter(3);
        x.edit(3, 0);
        x.lock(2, 0, 2);
        C.is(LOCKED, x.undo(1, 0), "undo below the force");
        C.is(2, x.undo(2, 0), "undo at the force, to a version at the force");
        C.is(LOCKED, x.undo(3, 0), "undo to a version that ranks below the force");
        C.is(2, x.version(0), "nothing is dropped");
        x.lock(2, 0, 1);
        C.is(1, x.undo(1, 0), "undo to a version at the force");
        C.is(1, x.rankOf(0), "rankOf");
        MacroWiki y = new MacroWiki();
        y.setRank(2, 2);
        y.call(1, NONE);
        y.edit(2, 0);
        y.edit(2, 0);
        y.edit(0, 1);
        y.lock(2, 0, 2);
        C.is(REACH, y.undo(2, 0), "undo to a call of a page that ranks below the force");
        y.approve(2, 1);
        C.is(1, y.undo(2, 0), "undo to a call of a page that is approved");
        MacroWiki z = new MacroWiki();
        z.setRank(2, 2);
        z.letter(1);
        z.edit(0, 0);
        z.approve(2, 0);
        z.letter(2);
        z.edit(0, 0);
        z.lock(2, 0, 2);
        C.is(1, z.undo(2, 0), "undo to a version that had been approved");
        C.is(2, z.rankOf(0), "which keeps its rank");
    }

    private static void promise13() {
        MacroWiki x = new MacroWiki();
        x.setRank(1, 1);
        x.setRank(2, 2);
        x.setRank(3, 3);
        for (int user : NO_USERS) {
            C.fails(NO_SUCH, () -> x.approve(user, 0), "approve(" + user + ", 0)");
        }
        for (int page : NO_PAGES) {
            C.fails(NO_SUCH, () -> x.approve(0, page), "approve(0, " + page + ")");
        }
        C.is(false, x.approve(3, 0), "approve of the version 0");
        x.edit(0, 0);
        C.is(false, x.approve(0, 0), "approve by one of the same rank");
        C.is(true, x.approve(1, 0), "approve by one of a greater rank");
        C.is(1, x.rankOf(0), "rankOf");
        C.is(false, x.approve(1, 0), "approve again");
        C.is(false, x.approve(0, 0), "approve by one of a lower rank");
        C.is(1, x.rankOf(0), "rankOf");
        x.setRank(1, 0);
        C.is(1, x.rankOf(0), "the rank is that of then");
        x.setRank(1, 1);
        x.edit(0, 1);
        x.call(1, NONE);
        x.edit(0, 2);
        x.lock(2, 2, 2);
        C.is(false, x.approve(1, 1), "approve below the force");
        C.is(0, x.rankOf(1), "rankOf");
        C.is(true, x.approve(2, 1), "approve at the force");
        C.is(2, x.rankOf(1), "rankOf");
        x.setRank(0, 3);
        C.is(2, x.rankOf(1), "rankOf");
        C.is(true, x.approve(0, 1), "approve by a user who has risen");
        C.is(3, x.rankOf(1), "rankOf");
        C.is(1, x.version(1), "approve makes no version");
    }

    private static void promise14() {
        MacroWiki x = new MacroWiki();
        x.setRank(1, 1);
        x.setRank(2, 2);
        x.setRank(3, 3);
        for (int user : NO_USERS) {
            C.fails(NO_SUCH, () -> x.lock(user, 0, 0), "lock(" + user + ", 0, 0)");
            C.fails(NO_SUCH, () -> x.lock(user, 0, 4), "lock(" + user + ", 0, 4)");
        }
        for (int page : NO_PAGES) {
            C.fails(NO_SUCH, () -> x.lock(0, page, 0), "lock(0, " + page + ", 0)");
            C.fails(NO_SUCH, () -> x.lock(0, page, -1), "lock(0, " + page + ", -1)");
        }
        for (int rank : NO_RANKS) {
            C.fails(RANGE, () -> x.lock(3, 0, rank), "lock(3, 0, " + rank + ")");
        }
        C.is(0, x.lock(0, 0, 0), "lock to what it is");
        C.is(LOCKED, x.lock(0, 0, 1), "lock above the rank");
        C.is(0, x.force(0), "the lock stays");
        C.is(0, x.lock(1, 0, 1), "lock at the rank");
        C.is(1, x.lock(3, 0, 2), "lock by a higher rank");
        C.is(LOCKED, x.lock(1, 0, 0), "unlock below the lock");
        C.is(2, x.force(0), "the lock stays");
        C.is(LOCKED, x.lock(2, 0, 3), "lock above the rank");
        C.is(2, x.lock(2, 0, 0), "unlock at the lock");
        C.is(0, x.lock(3, 11, 3), "lock of the last page");
        C.is(3, x.lock(3, 11, 3), "lock of it again");
        x.call(4, NONE);
        x.edit(3, 11);
        C.is(3, x.force(4), "the force of a page that it calls");
        C.is(0, x.lock(1, 4, 1), "the lock asks nothing of the force");
        C.is(1, x.lock(1, 4, 0), "nor to unlock");
        C.is(0, x.lock(5, 4, 0), "nor to leave it");
    }

    private static void promise15() {
        MacroWiki x = new MacroWiki();
        C.is(0, x.setRank(0, 3), "setRank(0, 3)");
        C.is(3, x.setRank(0, 1), "setRank(0, 1)");
        for (int user : NO_USERS) {
            C.fails(NO_SUCH, () -> x.setRank(user, 0), "setRank(" + user + ", 0)");
            C.fails(NO_SUCH, () -> x.setRank(user, 4), "setRank(" + user + ", 4)");
        }
        for (int rank : NO_RANKS) {
            C.fails(RANGE, () -> x.setRank(0, rank), "setRank(0, " + rank + ")");
        }
        C.is(1, x.setRank(0, 0), "setRank(0, 0) behind wrong ones");
        C.is(0, x.setRank(5, 2), "setRank(5, 2)");
        C.is(2, x.setRank(5, 2), "setRank(5, 2) again");
        x.edit(5, 0);
        x.setRank(5, 0);
        C.is(2, x.rankOf(0), "a version keeps the rank that its editor had");
        x.edit(5, 0);
        C.is(0, x.rankOf(0), "the next has the new one");
    }

    private static void promises16To20() {
        MacroWiki x = new MacroWiki();
        noSuchPage(x, MacroWiki::version, "version");
        noSuchPage(x, MacroWiki::rankOf, "rankOf");
        noSuchPage(x, MacroWiki::force, "force");
        noSuchPage(x, MacroWiki::reaches, "reaches");
        noSuchPage(x, MacroWiki::extent, "extent");
        noSuchPage(x, MacroWiki::standsFor, "standsFor");
        noSuchPage(x, MacroWiki::links, "links");
        noSuchPage(x, MacroWiki::broken, "broken");
        noSuchPage(x, MacroWiki::firstBroken, "firstBroken");
        noSuchPage(x, MacroWiki::linkedFrom, "linkedFrom");
        noSuchPage(x, MacroWiki::breaches, "breaches");
        for (int rank = 0; rank <= 3; rank++) {
            x.setRank(rank, rank);
            C.is(1, x.edit(rank, 8 + rank), "edit");
            C.is(rank, x.rankOf(8 + rank), "rankOf");
            C.is(1, x.version(8 + rank), "version");
        }
    }

    private static void promise18() {
        MacroWiki x = new MacroWiki();
        x.setRank(3, 3);
        x.lock(3, 0, 1);
        C.is(1, x.force(0), "its own lock");
        x.call(1, NONE);
        x.edit(3, 0);
        C.is(1, x.force(1), "the lock of a page that calls it");
        x.call(2, 4);
        x.edit(3, 1);
        C.is(1, x.force(2), "the lock of a page that reaches it");
        x.lock(3, 1, 3);
        C.is(3, x.force(2), "the greatest lock of two that reach it");
        C.is(1, x.force(0), "the lock of a page that it calls is none of its own");
        x.lock(3, 2, 2);
        C.is(3, x.force(2), "its own lock is not the greatest");
        x.lock(3, 1, 0);
        C.is(2, x.force(2), "its own lock is the greatest");
        x.redirect(3);
        x.link(4, 0);
        x.edit(3, 0);
        C.is(0, x.force(3), "a redirect hands on no force");
        C.is(0, x.force(4), "a link hands on no force");
        C.is(0, x.force(1), "a page that is called no more");
    }

    private static void promise19() {
        MacroWiki x = new MacroWiki();
        x.call(11, NONE);
        x.callOn(0);
        x.edit(0, 5);
        C.is(1 << 11 | 1, x.reaches(5), "those that it calls");
        x.when(1);
        x.call(7, NONE);
        x.end();
        x.edit(0, 11);
        C.is(1 << 11 | 1 << 7 | 1, x.reaches(5), "those that these call");
        C.is(1 << 7, x.reaches(11), "those that it calls in a WHEN");
        x.call(5, NONE);
        x.link(3, 1);
        x.edit(0, 4);
        C.is(1 << 11 | 1 << 7 | 1 << 5 | 1, x.reaches(4), "those that it reaches three deep");
        x.undo(0, 11);
        C.is(1 << 11 | 1 << 5 | 1, x.reaches(4), "those that it still reaches");
    }

    private static void promise20() {
        MacroWiki x = new MacroWiki();
        x.letter(0);
        x.argument();
        x.anchor(1);
        x.link(1, 1);
        x.redirect(1);
        x.when(1);
        x.letter(1);
        x.end();
        x.edit(0, 0);
        C.is(5, x.extent(0), "letters, arguments, anchors and links");
        x.call(0, NONE);
        x.letter(1);
        x.callOn(0);
        x.edit(0, 1);
        C.is(11, x.extent(1), "each called page as often as it is called");
        x.when(2);
        x.callOn(1);
        x.call(0, NONE);
        x.end();
        x.edit(0, 2);
        C.is(16, x.extent(2), "called pages in a WHEN");
        C.is(0, x.items(2, NONE), "which are left out");
        x.edit(0, 0);
        C.is(1, x.extent(2), "extents follow the called pages");
    }

    private static void promises21To25() {
        MacroWiki x = new MacroWiki();
        x.argument();
        x.anchor(3);
        x.link(9, 8);
        x.edit(0, 0);
        x.letter(6);
        x.callOn(0);
        x.call(0, 2);
        x.call(0, NONE);
        x.edit(0, 1);
        x.call(1, 25);
        x.callOn(1);
        x.edit(0, 2);
        C.is(9, x.items(1, 4), "items with a letter");
        C.is(8, x.items(1, NONE), "items with none");
        C.is(9 + 8, x.items(2, NONE), "items of calls with a letter and with none");
        C.is(9 + 9, x.items(2, 0), "items of calls with letters");
        shows(x, 2, 0, 0, LETTER, 6, 1);
        shows(x, 2, 0, 1, LETTER, 25, 0);
        shows(x, 2, 0, 2, ANCHOR, 3, 0);
        shows(x, 2, 0, 3, LINK, 98, 0);
        shows(x, 2, 0, 4, LETTER, 2, 0);
        shows(x, 2, 0, 9, LETTER, 6, 1);
        shows(x, 2, 0, 10, LETTER, 0, 0);
        shows(x, 2, NONE, 10, ANCHOR, 3, 0);
        shows(x, 2, NONE, 16, LINK, 98, 0);
        C.fails(NO_ITEM, () -> x.itemAt(2, NONE, 17), "itemAt behind the last item");
        C.fails(NO_ITEM, () -> x.itemAnew(2, NONE, 17), "itemAnew behind the last item");
        shows(x, 2, 0, 17, LINK, 98, 0);
        C.fails(NO_ITEM, () -> x.itemAt(2, 0, 18), "itemAt behind the last item with a letter");
        x.letter(1);
        x.edit(0, 0);
        C.is(8, x.items(2, 0), "items follow the called pages");
        shows(x, 2, 0, 1, LETTER, 1, 0);
        x.undo(0, 0);
        C.is(18, x.items(2, 0), "and come back with them");
        shows(x, 2, 0, 1, LETTER, 25, 0);
    }

    private static void whensAround() {
        MacroWiki x = new MacroWiki();
        x.when(1);
        x.letter(10);
        x.when(1);
        x.letter(11);
        x.end();
        x.letter(12);
        x.when(2);
        x.letter(13);
        x.end();
        x.argument();
        x.end();
        x.when(2);
        x.argument();
        x.end();
        x.letter(14);
        x.edit(0, 0);
        x.callOn(0);
        x.when(2);
        x.callOn(0);
        x.call(0, 1);
        x.end();
        x.call(0, 2);
        x.edit(0, 1);
        row(x, 0, NONE, 14);
        row(x, 0, 1, 10, 11, 12, 1, 14);
        row(x, 0, 2, 2, 14);
        row(x, 0, 3, 14);
        row(x, 1, NONE, 14, 2, 14);
        row(x, 1, 1, 10, 11, 12, 1, 14, 2, 14);
        row(x, 1, 2, 2, 14, 2, 14, 10, 11, 12, 1, 14, 2, 14);
        row(x, 1, 0, 14, 2, 14);
        C.is(7, x.extent(0), "extent");
        C.is(28, x.extent(1), "extent of calls");
        MacroWiki deep = new MacroWiki();
        for (int i = 0; i < 14; i++) {
            deep.when(3);
        }
        deep.letter(1);
        deep.letter(2);
        for (int i = 0; i < 14; i++) {
            deep.end();
        }
        C.is(1, deep.edit(0, 0), "WHENs fourteen deep");
        row(deep, 0, 3, 1, 2);
        row(deep, 0, 2);
        row(deep, 0, NONE);
    }

    private static void wrongItems() {
        MacroWiki x = new MacroWiki();
        x.letter(1);
        x.argument();
        x.edit(0, 0);
        for (int page : NO_PAGES) {
            C.fails(NO_SUCH, () -> x.items(page, 0), "items(" + page + ", 0)");
            C.fails(NO_SUCH, () -> x.items(page, 26), "items(" + page + ", 26)");
        }
        for (int letter : NO_LETTERS) {
            C.fails(RANGE, () -> x.items(0, letter), "items(0, " + letter + ")");
        }
        wrongItems(x, MacroWiki::sortAt, "sortAt");
        wrongItems(x, MacroWiki::itemAt, "itemAt");
        wrongItems(x, MacroWiki::itemAnew, "itemAnew");
        wrongItems(x, MacroWiki::sourceAt, "sourceAt");
    }

    private static void wrongItems(MacroWiki x, ItemQuestion question, String name) {
        for (int page : NO_PAGES) {
            C.fails(NO_SUCH, () -> question.ask(x, page, 0, 0), name + "(" + page + ", 0, 0)");
            C.fails(NO_SUCH, () -> question.ask(x, page, 26, -1), name + "(" + page + ", 26, -1)");
        }
        for (int letter : NO_LETTERS) {
            C.fails(RANGE, () -> question.ask(x, 0, letter, 0), name + "(0, " + letter + ", 0)");
            C.fails(RANGE, () -> question.ask(x, 0, letter, -1), name + "(0, " + letter + ", -1)");
        }
        for (int place : new int[] {-1, 1, 2, Integer.MIN_VALUE, Integer.MAX_VALUE}) {
            C.fails(NO_ITEM, () -> question.ask(x, 0, NONE, place), name + "(0, NONE, " + place + ")");
        }
        C.fails(NO_ITEM, () -> question.ask(x, 0, 0, 2), name + "(0, 0, 2)");
        C.fails(NO_ITEM, () -> question.ask(x, 11, 25, 0), name + "(11, 25, 0)");
        C.works(() -> question.ask(x, 0, 0, 1), name + "(0, 0, 1)");
    }

    private static void promise26() {
        MacroWiki x = new MacroWiki();
        x.redirect(0);
        x.edit(0, 1);
        C.is(0, x.standsFor(1), "one redirect");
        x.redirect(1);
        x.edit(0, 2);
        x.redirect(2);
        x.edit(0, 3);
        C.is(0, x.standsFor(3), "three redirects");
        x.redirect(3);
        x.edit(0, 4);
        C.is(NONE, x.standsFor(4), "four redirects");
        x.redirect(5);
        x.edit(0, 5);
        C.is(NONE, x.standsFor(5), "a redirect to itself");
        x.redirect(7);
        x.edit(0, 6);
        x.redirect(6);
        x.edit(0, 7);
        C.is(NONE, x.standsFor(7), "a ring of two redirects");
        x.redirect(0);
        x.redirect(0);
        x.edit(0, 8);
        C.is(8, x.standsFor(8), "two redirects in a text");
        x.when(1);
        x.redirect(0);
        x.end();
        x.edit(0, 9);
        C.is(9, x.standsFor(9), "a redirect in a WHEN");
        x.callOn(1);
        x.edit(0, 10);
        C.is(10, x.standsFor(10), "a call of a redirect");
        x.letter(1);
        x.edit(0, 2);
        C.is(2, x.standsFor(4), "redirects to a page that is none any more");
        C.is(0, x.standsFor(0), "a page that is no redirect");
    }

    private static void promises27To29() {
        MacroWiki x = new MacroWiki();
        x.anchor(1);
        x.when(2);
        x.anchor(2);
        x.end();
        x.edit(0, 0);
        x.redirect(0);
        x.edit(0, 1);
        x.call(0, 2);
        x.edit(0, 2);
        x.link(11, 0);
        x.link(0, 1);
        x.link(0, 2);
        x.link(1, 1);
        x.link(2, 2);
        x.link(2, 1);
        x.when(3);
        x.link(5, 5);
        x.end();
        x.edit(0, 3);
        C.is(6, x.links(3), "links");
        C.is(2, x.broken(3), "broken");
        C.is(110, x.firstBroken(3), "firstBroken");
        x.anchor(0);
        x.edit(0, 11);
        C.is(1, x.broken(3), "broken");
        C.is(2, x.firstBroken(3), "firstBroken");
        x.letter(1);
        x.anchor(2);
        x.edit(0, 0);
        C.is(6, x.links(3), "links");
        C.is(3, x.broken(3), "broken, with another anchor there");
        C.is(1, x.firstBroken(3), "firstBroken");
        x.call(3, 3);
        x.call(3, NONE);
        x.edit(0, 4);
        C.is(13, x.links(4), "links of called pages");
        C.is(7, x.broken(4), "broken of called pages");
        x.anchor(1);
        x.anchor(2);
        x.edit(0, 0);
        C.is(0, x.broken(3), "all are good");
        C.is(NONE, x.firstBroken(3), "firstBroken, if all are good");
        C.is(1, x.broken(4), "broken of called pages");
        C.is(55, x.firstBroken(4), "firstBroken of called pages");
        x.redirect(1);
        x.edit(0, 0);
        C.is(5, x.broken(3), "links to pages that stand for none");
        C.is(NONE, x.standsFor(1), "standsFor");
        x.link(7, 0);
        x.edit(0, 7);
        C.is(1, x.broken(7), "a link to the page itself, without its anchor");
        x.link(7, 0);
        x.anchor(0);
        x.letter(0);
        x.edit(0, 7);
        C.is(0, x.broken(7), "a link to the page itself");
        x.letter(9);
        x.edit(0, 8);
        x.link(8, 9);
        x.edit(0, 9);
        C.is(1, x.broken(9), "a letter is no anchor");
        x.argument();
        x.link(1, 1);
        x.edit(0, 10);
        C.is(1, x.links(10), "a link that the page shows with none, behind an argument");
    }

    private static void promise30() {
        MacroWiki x = new MacroWiki();
        x.anchor(4);
        x.edit(0, 0);
        x.redirect(0);
        x.edit(0, 1);
        x.redirect(1);
        x.edit(0, 2);
        x.link(0, 4);
        x.edit(0, 3);
        x.link(2, 4);
        x.edit(0, 4);
        x.link(1, 4);
        x.link(0, 5);
        x.edit(0, 5);
        x.link(0, 5);
        x.edit(0, 6);
        x.call(4, NONE);
        x.edit(0, 11);
        C.is(1 << 3 | 1 << 4 | 1 << 5 | 1 << 11, x.linkedFrom(0), "links to it and to pages that stand for it");
        C.is(1 << 5, x.linkedFrom(1), "links to a redirect itself");
        C.is(1 << 4 | 1 << 11, x.linkedFrom(2), "links to a redirect to a redirect");
        C.is(0, x.linkedFrom(3), "no links");
        x.link(0, 4);
        x.anchor(4);
        x.edit(0, 0);
        C.is(1, x.linkedFrom(0) & 1, "a link to the page itself");
        x.when(1);
        x.link(0, 4);
        x.end();
        x.edit(0, 3);
        C.is(0, x.linkedFrom(0) & 1 << 3, "a link that is shown with a letter alone");
        x.edit(0, 0);
        C.is(0, x.linkedFrom(0), "no link is good");
        C.is(0, x.linkedFrom(1), "no link to a redirect is good");
    }

    private static void promises31And32() {
        MacroWiki x = new MacroWiki();
        x.setRank(1, 1);
        x.setRank(3, 3);
        x.letter(1);
        x.argument();
        x.anchor(1);
        x.link(1, 1);
        x.edit(0, 0);
        x.callOn(0);
        x.letter(2);
        x.call(0, 7);
        x.edit(1, 1);
        C.is(0, x.breaches(1), "without a lock");
        x.lock(1, 1, 1);
        C.is(3 + 4, x.breaches(1), "items of a page whose version ranks below the lock");
        C.is(0, x.breaches(0), "a page that has force, and no lock");
        C.is(1, x.breached(), "breached");
        x.lock(3, 1, 2);
        C.is(3 + 1 + 4, x.breaches(1), "items of its own too");
        x.lock(3, 0, 1);
        C.is(3, x.breaches(0), "items with no argument");
        C.is(2, x.breached(), "breached");
        x.approve(3, 0);
        C.is(1, x.breaches(1), "an approved version");
        C.is(0, x.breaches(0), "an approved version of its own");
        C.is(1, x.breached(), "breached");
        x.approve(3, 1);
        C.is(0, x.breaches(1), "both approved");
        C.is(0, x.breached(), "breached");
        x.call(1, NONE);
        x.edit(0, 11);
        x.edit(0, 10);
        x.lock(3, 11, 3);
        x.lock(3, 10, 3);
        C.is(0, x.breaches(11), "a page below its lock of which no piece is an item");
        C.is(0, x.breaches(10), "an empty page below its lock");
        x.when(5);
        x.letter(1);
        x.end();
        x.edit(0, 9);
        x.lock(3, 9, 1);
        C.is(0, x.breaches(9), "an item that is shown with a letter alone");
        C.is(0, x.breached(), "breached");
    }

    /** Thirty calls of thirty, five deep, of a page that shows nothing: each question has an end all the same. */
    private static void manyEmptyCalls() {
        MacroWiki x = new MacroWiki();
        for (int page = 1; page <= 5; page++) {
            for (int i = 0; i < 30; i++) {
                x.callOn(page - 1);
            }
            C.is(1, x.edit(0, page), "thirty calls");
        }
        C.is(0, x.items(5, 1), "items of calls of an empty page");
        C.fails(NO_ITEM, () -> x.itemAt(5, 1, 0), "itemAt of calls of an empty page");
        for (int i = 0; i < 200; i++) {
            C.fails(NO_ITEM, () -> x.itemAnew(5, 1, 0), "itemAnew of calls of an empty page");
        }
        x.letter(1);
        C.is(LONG, x.edit(0, 0), "a letter in the page that is called 24300000 times");
        x.letter(1);
        C.is(LONG, x.edit(0, 3), "a letter in a page that is called 900 times");
    }

    private static void shows(MacroWiki x, int page, int letter, int place, int sort, int item, int source) {
        String asked = "(" + page + ", " + letter + ", " + place + ")";
        C.is(sort, x.sortAt(page, letter, place), "sortAt" + asked);
        C.is(item, x.itemAt(page, letter, place), "itemAt" + asked);
        C.is(item, x.itemAnew(page, letter, place), "itemAnew" + asked);
        C.is(source, x.sourceAt(page, letter, place), "sourceAt" + asked);
    }

    private static void row(MacroWiki x, int page, int letter, int... want) {
        C.is(want.length, x.items(page, letter), "items(" + page + ", " + letter + ")");
        for (int place = 0; place < want.length && place < x.items(page, letter); place++) {
            String asked = "(" + page + ", " + letter + ", " + place + ")";
            C.is(want[place], x.itemAt(page, letter, place), "itemAt" + asked);
            C.is(want[place], x.itemAnew(page, letter, place), "itemAnew" + asked);
        }
    }

    private static void noSuchPage(MacroWiki x, Question question, String name) {
        for (int page : NO_PAGES) {
            C.fails(NO_SUCH, () -> question.ask(x, page), name + "(" + page + ")");
        }
        C.works(() -> question.ask(x, 0), name + "(0)");
        C.works(() -> question.ask(x, 11), name + "(11)");
    }

    /** Adds letters till the draft has so many pieces. */
    private static void fillTo(MacroWiki x, int pieces) {
        int had = 0;
        for (int i = 0; i < 30 && had < pieces; i++) {
            had = x.letter(1);
        }
    }

    private static void calls(MacroWiki x, int page, int times) {
        for (int i = 0; i < times; i++) {
            x.call(page, NONE);
        }
    }
}
