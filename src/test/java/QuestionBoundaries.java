/** The boundary cases of the questions: promises 16 to 32. */
final class QuestionBoundaries {
    private static final int[] ALL_PAGES = Script.from(0, 11);
    private static final String PAGE = "page: 0 to 11";
    private static final String IF_NO_PAGE = "Throws IndexOutOfBoundsException if there is no such page";
    private static final String IF_NO_LETTER = "Throws IllegalArgumentException if letter is out of range";
    private static final String SET = "Returns a set: the bit p for the page p.";
    private static final String HOW_MANY = "Returns how many.";

    private final Boundaries t;

    QuestionBoundaries(Boundaries tests) {
        t = tests;
    }

    void all() {
        version();
        rankOf();
        force();
        reaches();
        extent();
        items();
        sortAt();
        itemAt("Promise 23: itemAt", "itemAt", "Returns an item that a page shows, as it is kept.");
        itemAt("Promise 24: itemAnew", "itemAnew", "Returns the same, found by going through all texts anew.");
        sourceAt();
        standsFor();
        links();
        broken();
        firstBroken();
        linkedFrom();
        breaches();
        breached();
    }

    /** What a question that has the page alone does with pages that there are not. */
    private void noSuchPage(String name) {
        t.says(IF_NO_PAGE, "-1, 12, others outside, and the ends of int",
            Scenes.RICH + Script.each(name + "(#): INDEX", Scenes.NO_PAGES));
        t.says(IF_NO_PAGE, "of a new object too",
            Script.each(name + "(#): INDEX", -1, 12) + Script.each(name + "(#)", ALL_PAGES));
    }

    // ---- pages

    private void version() {
        t.of("Promise 16: version");
        String sentence = "Returns the number of the version of now of a page.";
        t.says(sentence, "behind edits, an undo, and refused ones",
            "version(0): 0; edit(0, 0): 1; version(0): 1; edit(0, 0): 2; version(0): 2; undo(0, 0): 1; version(0): 1; "
            + "callOn(0); edit(0, 0): RING; version(0): 1; undo(0, 0): 0; version(0): 0; undo(0, 0): STATE; "
            + "version(0): 0");
        t.says(PAGE, "0 and 11 apart from those beside them",
            "2 x edit(0, 0); 3 x edit(0, 11); version(0): 2; version(1): 0; version(10): 0; version(11): 3");
        t.says("Returns 0 to 20.", "0 at first, 20 at most",
            "version(0): 0; 19 x edit(0, 0); version(0): 19; edit(0, 0): 20; version(0): 20; edit(0, 0): STATE; "
            + "version(0): 20");
        noSuchPage("version");
    }

    private void rankOf() {
        t.of("Promise 17: rankOf");
        String sentence = "Returns the rank of the version of now of a page.";
        t.says(sentence, "3 at first, then that of the editor, or of who approves",
            Scenes.RANKS + "rankOf(0): 3; edit(0, 0): 1; rankOf(0): 0; approve(1, 0): true; rankOf(0): 1; "
            + "edit(2, 0): 2; rankOf(0): 2; undo(0, 0): 1; rankOf(0): 1; undo(0, 0): 0; rankOf(0): 3");
        t.says(sentence, "as before behind a refused edit",
            Scenes.RANKS + "edit(2, 0): 1; callOn(0); edit(1, 0): RING; rankOf(0): 2");
        t.says(PAGE, "0 and 11 apart from those beside them",
            Scenes.RANKS + "edit(1, 0): 1; edit(2, 11): 1; rankOf(0): 1; rankOf(1): 3; rankOf(10): 3; rankOf(11): 2");
        t.says("Returns 0 to 3.", "each", Scenes.RANKS + Script.each("edit(#, 0); rankOf(0): #", Script.from(0, 3)));
        noSuchPage("rankOf");
    }

    private void force() {
        t.of("Promise 18: force");
        String sentence = "Returns the force of a page.";
        t.says(sentence, "the greatest of three locks, whichever that is",
            Scenes.RANKS + "call(0, NONE); edit(0, 1): 1; call(1, NONE); edit(0, 2): 1; lock(3, 0, 1): 0; force(0): 1; "
            + "lock(3, 1, 2): 0; force(0): 2; lock(3, 2, 3): 0; force(0): 3; lock(3, 2, 0): 3; force(0): 2; "
            + "lock(3, 1, 0): 2; force(0): 1; lock(3, 0, 0): 1; force(0): 0");
        t.says(sentence, "as before behind a refused lock",
            Scenes.RANKS + "lock(1, 0, 1): 0; lock(1, 0, 2): LOCKED; force(0): 1; lock(0, 0, 0): LOCKED; force(0): 1");
        t.says(PAGE, "0 and 11 apart from those beside them",
            Scenes.RANKS + "lock(3, 0, 1): 0; lock(3, 11, 2): 0; force(0): 1; force(1): 0; force(10): 0; force(11): 2");
        t.says(PAGE, "the first calls the last, and the other way round",
            Scenes.RANKS + "call(11, 0); edit(3, 0): 1; lock(3, 0, 2): 0; force(11): 2; force(10): 0",
            Scenes.RANKS + "call(0, 0); edit(3, 11): 1; lock(3, 11, 2): 0; force(0): 2; force(1): 0");
        t.says("Returns 0 to 3.", "each", Scenes.RANKS + Script.each("lock(3, 0, #); force(0): #", Script.from(0, 3)));
        noSuchPage("force");
    }

    private void reaches() {
        t.of("Promise 19: reaches");
        String sentence = "Returns the pages that a page reaches.";
        t.says(sentence, "not the page itself, and not those that reach it",
            Scenes.chainToFive() + "reaches(0): 0; reaches(3): 7; reaches(5): 31; reaches(6): 0");
        t.says(sentence, "as before behind a refused edit",
            "call(1, 0); edit(0, 0): 1; call(2, 0); call(0, 0); edit(0, 0): RING; reaches(0): 2");
        t.says(PAGE, "0 and 11 apart from those beside them",
            "call(5, 0); edit(0, 0): 1; call(6, 0); edit(0, 11): 1; reaches(0): 32; reaches(1): 0; reaches(10): 0; "
            + "reaches(11): 64");
        t.says(SET, "none, and the bits 0 and 11",
            "reaches(0): 0; call(11, 0); edit(0, 0): 1; reaches(0): 2048; call(0, 0); edit(0, 10): 1; "
            + "reaches(10): 2049; call(0, 0); edit(0, 9): 1; reaches(9): 2049");
        t.says(SET, "each bit",
            Script.each("call(#, 0); edit(0, 0)", Script.from(1, 11)) + "reaches(0): 2048",
            "call(1, 0); edit(0, 0): 1; reaches(0): 2; call(2, 0); edit(0, 0): 2; reaches(0): 4; call(10, 0); "
            + "edit(0, 0): 3; reaches(0): 1024; call(0, 0); edit(0, 1): 1; reaches(1): 1025");
        t.says(SET, "all others", Script.each("call(#, 0)", Script.from(1, 11)) + "edit(0, 0): 1; reaches(0): 4094");
        t.says(SET, "a page that is called twice counts once",
            "call(3, 0); callOn(3); call(3, NONE); edit(0, 0): 1; reaches(0): 8");
        noSuchPage("reaches");
    }

    private void extent() {
        t.of("Promise 20: extent");
        String sentence = "Returns the extent of a page.";
        t.says(sentence, "behind edits and undos, of the page and of one that calls it",
            "call(0, 0); letter(1); edit(0, 1): 1; extent(1): 1; 5 x letter(1); edit(0, 0): 1; extent(0): 5; "
            + "extent(1): 6; undo(0, 0): 0; extent(0): 0; extent(1): 1; undo(0, 1): 0; extent(1): 0");
        t.says(sentence, "as before behind a refused edit",
            "letter(1); edit(0, 0): 1; 3 x letter(1); callOn(0); edit(0, 0): RING; extent(0): 1");
        t.says(PAGE, "0 and 11 apart from those beside them",
            "letter(1); edit(0, 0): 1; 2 x letter(1); edit(0, 11): 1; extent(0): 1; extent(1): 0; extent(10): 0; "
            + "extent(11): 2");
        t.says("Returns 0 to 100.", "0, 99, 100, and no more",
            Scenes.letters(10, 0, 0) + "extent(1): 0; 9 x call(0, 0); 9 x letter(1); edit(0, 1): 1; extent(1): 99; "
            + "call(1, 0); letter(1); edit(0, 2): 1; extent(2): 100; call(2, 0); letter(1); edit(0, 3): LONG; "
            + "extent(3): 0");
        noSuchPage("extent");
    }

    private void items() {
        t.of("Promise 21: items");
        String sentence = "Returns how many items a page shows.";
        t.says(sentence, "of each sort, with none and with letters",
            "letter(1); argument(); anchor(1); link(1, 1); when(5); letter(2); end(); redirect(3); edit(0, 0): 1; "
            + "items(0, NONE): 3; items(0, 0): 4; items(0, 5): 5; items(0, 25): 4");
        t.says(sentence, "behind edits and undos of a page that it calls",
            "callOn(0); edit(0, 1): 1; items(1, NONE): 0; 2 x letter(1); edit(0, 0): 1; items(1, NONE): 2; "
            + "undo(0, 0): 0; items(1, NONE): 0");
        t.says(PAGE, "0 and 11 apart from those beside them",
            "letter(1); edit(0, 0): 1; 2 x letter(1); edit(0, 11): 1; items(0, 0): 1; items(1, 0): 0; items(10, 0): 0; "
            + "items(11, 0): 2");
        t.says("letter: the argument, 0 to 25", "0 and 25, apart from those beside them",
            "when(0); letter(1); end(); when(25); 2 x letter(2); end(); edit(0, 0): 1; items(0, 0): 1; items(0, 1): 0; "
            + "items(0, 24): 0; items(0, 25): 2; items(0, NONE): 0");
        t.says("letter: the argument, 0 to 25", "each",
            "argument(); edit(0, 0): 1\n" + Script.each("items(0, #): 1", Script.from(0, 25)));
        t.says("NONE for none", "the argument is nothing, and no WHEN is open to it",
            "argument(); when(0); letter(1); end(); edit(0, 0): 1; items(0, NONE): 0; items(0, -1): 0");
        t.says("Returns 0 to 100.", "0, 99 and 100",
            Scenes.letters(10, 0, 0) + "10 x call(0, 0); edit(0, 1): 1; items(1, NONE): 100; items(1, 25): 100; "
            + "9 x call(0, 0); 9 x letter(1); argument(); edit(0, 2): 1; items(2, NONE): 99; items(2, 0): 100; "
            + "items(3, 0): 0");
        noSuchPageOfItems("items(#, 0)", "items(#, 26); items(#, -2)");
        noSuchLetter("items(0, #)");
    }

    private void noSuchPageOfItems(String pattern, String patternsWithMore) {
        t.says(IF_NO_PAGE, "-1, 12, others outside, and the ends of int",
            Scenes.RICH + Script.each(pattern + ": INDEX", Scenes.NO_PAGES));
        t.says(IF_NO_PAGE, "while the letter is out of range too",
            Scenes.RICH + Script.each(patternsWithMore.replace(";", ": INDEX;") + ": INDEX", Scenes.NO_PAGES));
    }

    private void noSuchLetter(String pattern) {
        t.says(IF_NO_LETTER, "-2, just below NONE, 26, others outside, and the ends of int",
            Scenes.RICH + Script.each(pattern + ": RANGE", Scenes.NO_ARGUMENTS));
        t.says(IF_NO_LETTER, "of an empty page too", Script.each(pattern + ": RANGE", -2, 26));
    }

    // ---- an item of a page

    /** What is common to the four questions about an item; the answers are those for the letter 0 in each place. */
    private void item(String name) {
        String place = "place: from 0";
        String ofOne = "letter(1); edit(0, 0): 1\n";
        t.says(place, "0 is the first one", ofOne + name + "(0, NONE, 0); " + name + "(0, NONE, -1): NO_ITEM");
        String notSoMany = "if the page does not show so many items with it, or place is below 0";
        t.says(notSoMany, "an empty page: 0, -1, and the ends of int",
            Script.each(name + "(0, NONE, #): NO_ITEM; " + name + "(0, 7, #): NO_ITEM", 0, 1, -1, Scenes.MIN,
                Scenes.MAX));
        t.says(notSoMany, "one item: 0 is one, 1 is none",
            ofOne + name + "(0, NONE, 0); " + name + "(0, NONE, 1): NO_ITEM; " + name + "(0, 25, 0); "
            + name + "(0, 25, 1): NO_ITEM");
        t.says(notSoMany, "below 0, and far behind, to the ends of int",
            ofOne
            + Script.each(name + "(0, NONE, #): NO_ITEM", -1, -2, -256, Scenes.MIN, Scenes.MIN + 1, 2, 31, 100, 256,
                65536, Scenes.MAX - 1, Scenes.MAX));
        t.says(notSoMany, "a hundred items: 99 is one, 100 is none",
            Scenes.hundred() + name + "(1, NONE, 99); " + name + "(1, NONE, 100): NO_ITEM; " + name + "(1, 3, 99); "
            + name + "(1, 3, 100): NO_ITEM; " + name + "(1, 3, 101): NO_ITEM");
        t.says(notSoMany, "fewer with none than with a letter",
            "letter(1); argument(); edit(0, 0): 1; " + name + "(0, 4, 1); " + name + "(0, 4, 2): NO_ITEM; " + name
            + "(0, NONE, 0); " + name + "(0, NONE, 1): NO_ITEM");
        t.says(notSoMany, "more with one letter than with others",
            "letter(1); when(9); letter(2); end(); edit(0, 0): 1; " + name + "(0, 9, 1); " + name + "(0, 9, 2): "
            + "NO_ITEM; " + name + "(0, 8, 1): NO_ITEM; " + name + "(0, 10, 1): NO_ITEM; " + name + "(0, NONE, 1): "
            + "NO_ITEM");
        t.says(notSoMany, "no more, where an undo or an edit takes it away",
            "letter(1); edit(0, 0): 1; 2 x letter(1); edit(0, 0): 2; callOn(0); edit(0, 1): 1; " + name + "(1, 0, 1); "
            + "undo(0, 0): 1; " + name + "(0, 0, 1): NO_ITEM; " + name + "(1, 0, 1): NO_ITEM; " + name + "(1, 0, 0); "
            + "edit(0, 0): 2; " + name + "(1, 0, 0): NO_ITEM; " + name + "(0, 0, 0): NO_ITEM");
        t.says(PAGE, "0 and 11 show one, those beside them none",
            "letter(1); edit(0, 0): 1; letter(1); edit(0, 11): 1; " + name + "(0, 0, 0); " + name + "(11, 0, 0); "
            + name + "(1, 0, 0): NO_ITEM; " + name + "(10, 0, 0): NO_ITEM");
        t.says("letter: the argument, 0 to 25", "0 and 25 show one, those beside them none",
            "when(0); letter(1); end(); when(25); letter(1); end(); edit(0, 0): 1; " + name + "(0, 0, 0); " + name
            + "(0, 25, 0); " + name + "(0, 1, 0): NO_ITEM; " + name + "(0, 24, 0): NO_ITEM");
        t.says("NONE for none", "the argument is nothing, and no WHEN is open to it",
            "argument(); when(0); letter(1); end(); edit(0, 0): 1; " + name + "(0, NONE, 0): NO_ITEM; "
            + name + "(0, 0, 1)");
        noSuchPageOfItems(name + "(#, 0, 0)", name + "(#, 26, 0); " + name + "(#, -2, 0); " + name + "(#, 0, -1); "
            + name + "(#, 26, -1)");
        noSuchLetter(name + "(0, #, 0)");
        t.says(IF_NO_LETTER, "while there is no such place too",
            Scenes.RICH + Script.each(name + "(0, #, -1): RANGE; " + name + "(0, #, 100): RANGE", Scenes.NO_ARGUMENTS));
    }

    private void sortAt() {
        t.of("Promise 22: sortAt");
        t.says("Returns the sort of an item that a page shows.", "of the page itself and of one that it calls",
            "letter(1); anchor(1); link(1, 1); argument(); edit(0, 0): 1; callOn(0); anchor(2); edit(0, 1): 1; "
            + "sortAt(1, 7, 0): LETTER; sortAt(1, 7, 1): ANCHOR; sortAt(1, 7, 2): LINK; sortAt(1, 7, 3): LETTER; "
            + "sortAt(1, 7, 4): ANCHOR; sortAt(1, NONE, 3): ANCHOR");
        t.says("Returns LETTER, ANCHOR or LINK.", "0, 1 and 2; the argument is a letter",
            "letter(0); anchor(0); link(0, 0); argument(); edit(0, 0): 1; sortAt(0, 0, 0): 0; sortAt(0, 0, 1): 1; "
            + "sortAt(0, 0, 2): 2; sortAt(0, 0, 3): 0");
        item("sortAt");
    }

    private void itemAt(String section, String name, String sentence) {
        t.of(section);
        String scene = "letter(8); argument(); anchor(3); link(4, 5); edit(0, 0): 1; callOn(0); letter(9); "
            + "call(0, 2); edit(0, 1): 1\n";
        t.says(sentence, "of the page itself and of one that it calls",
            scene + name + "(1, 7, 0): 8; " + name + "(1, 7, 1): 7; " + name + "(1, 7, 2): 3; " + name + "(1, 7, 3): "
            + "45; " + name + "(1, 7, 4): 9; " + name + "(1, 7, 6): 2; " + name + "(1, NONE, 1): 3; "
            + name + "(1, NONE, 5): 2");
        t.says(sentence, "behind an edit and an undo of a page that it calls",
            scene + "letter(1); edit(0, 0): 2; " + name + "(1, 7, 0): 1; " + name + "(1, 7, 1): 9; " + name
            + "(1, 7, 2): 1; undo(0, 0): 1; " + name + "(1, 7, 0): 8; " + name + "(1, 7, 4): 9");
        t.says(sentence, "as before behind a refused edit",
            scene + "letter(1); callOn(0); edit(0, 0): RING; " + name + "(1, 7, 0): 8; " + name + "(0, 7, 0): 8");
        String returns = "Returns the letter, the anchor, or of a link 10 times the page and the anchor, added.";
        t.says(returns, "the letters 0 and 25",
            "letter(0); letter(25); edit(0, 0): 1; " + name + "(0, 5, 0): 0; " + name + "(0, 5, 1): 25");
        t.says(returns, "the arguments 0 and 25",
            "argument(); edit(0, 0): 1; " + name + "(0, 0, 0): 0; " + name + "(0, 25, 0): 25; call(0, 0); call(0, 25); "
            + "edit(0, 1): 1; " + name + "(1, NONE, 0): 0; " + name + "(1, NONE, 1): 25");
        t.says(returns, "the anchors 0 and 9",
            "anchor(0); anchor(9); edit(0, 0): 1; " + name + "(0, 5, 0): 0; " + name + "(0, 5, 1): 9");
        t.says(returns, "links of the pages 0 and 11 with the anchors 0 and 9",
            "link(0, 0); link(0, 9); link(1, 0); link(11, 0); link(11, 9); edit(0, 0): 1; " + name + "(0, 5, 0): 0; "
            + name + "(0, 5, 1): 9; " + name + "(0, 5, 2): 10; " + name + "(0, 5, 3): 110; " + name + "(0, 5, 4): 119");
        item(name);
        t.says("place: from 0", "0, 98 and 99 of a hundred",
            "9 x letter(1); letter(2); edit(0, 0): 1; 10 x call(0, NONE); edit(0, 1): 1; " + name + "(1, NONE, 0): 1; "
            + name + "(1, NONE, 98): 1; " + name + "(1, NONE, 99): 2; " + name + "(1, NONE, 9): 2; "
            + name + "(1, NONE, 10): 1");
        t.says("place: from 0", "in thirty calls of thirty, four deep, of pages that show nothing",
            "30 x callOn(0); edit(0, 1): 1; 30 x callOn(1); edit(0, 2): 1; 30 x callOn(2); edit(0, 3): 1; "
            + "29 x callOn(3); letter(5); edit(0, 4): 1; callOn(4); edit(0, 5): 1\n" + name + "(5, 9, 0): 5; " + name
            + "(5, 9, 1): NO_ITEM; " + name + "(5, NONE, 0): 5; " + name + "(5, NONE, 1): NO_ITEM");
    }

    private void sourceAt() {
        t.of("Promise 25: sourceAt");
        t.says("Returns the page from which an item comes that a page shows.",
            "of the page itself and of those that it calls",
            "letter(1); edit(0, 0): 1; callOn(0); anchor(1); edit(0, 11): 1; link(1, 1); callOn(11); callOn(0); "
            + "edit(0, 5): 1; sourceAt(5, 0, 0): 5; sourceAt(5, 0, 1): 0; sourceAt(5, 0, 2): 11; sourceAt(5, 0, 3): 0");
        t.says("Returns the page.", "0 and 11, and each between",
            Script.each("argument(); edit(0, #): 1; sourceAt(#, 0, 0): #", ALL_PAGES));
        t.says("Returns the page.", "of the argument that page in whose text it is, not that which gives it",
            "argument(); edit(0, 0): 1; call(0, 5); edit(0, 11): 1; sourceAt(11, NONE, 0): 0");
        item("sourceAt");
    }

    // ---- links and breaches

    private void standsFor() {
        t.of("Promise 26: standsFor");
        t.says("Returns for which page a page stands.", "behind edits and an undo",
            "redirect(3); edit(0, 0): 1; standsFor(0): 3; redirect(4); edit(0, 0): 2; standsFor(0): 4; letter(1); "
            + "edit(0, 0): 3; standsFor(0): 0; undo(0, 0): 2; standsFor(0): 4");
        t.says(PAGE, "0 and 11 apart from those beside them",
            "redirect(5); edit(0, 0): 1; redirect(6); edit(0, 11): 1; standsFor(0): 5; standsFor(1): 1; "
            + "standsFor(10): 10; standsFor(11): 6");
        String returns = "Returns the page, itself if it is no redirect; NONE if it stands for none.";
        t.says(returns, "each page of a new object", Script.each("standsFor(#): #", ALL_PAGES));
        t.says(returns, "0, which is not NONE", "redirect(0); edit(0, 11): 1; standsFor(11): 0");
        String chain = "redirect(0); edit(0, 1): 1; redirect(1); edit(0, 2): 1; redirect(2); edit(0, 3): 1; "
            + "redirect(3); edit(0, 4): 1\n";
        t.says(returns, "one to four redirects",
            chain + "standsFor(0): 0; standsFor(1): 0; standsFor(2): 0; standsFor(3): 0; standsFor(4): NONE");
        t.says(returns, "a redirect to itself, and a ring of two",
            "redirect(0); edit(0, 0): 1; standsFor(0): NONE; redirect(2); edit(0, 1): 1; redirect(1); edit(0, 2): 1; "
            + "standsFor(1): NONE; standsFor(2): NONE");
        t.says(returns, "a redirect with other pieces is none",
            "redirect(1); redirect(2); edit(0, 0): 1; standsFor(0): 0; when(1); redirect(1); end(); edit(0, 0): 2; "
            + "standsFor(0): 0");
        noSuchPage("standsFor");
    }

    private void links() {
        t.of("Promise 27: links");
        String sentence = "Returns how many links a page has.";
        t.says(sentence, "no letters and anchors, good ones and others",
            "letter(1); anchor(1); link(0, 1); link(0, 2); edit(0, 0): 1; links(0): 2");
        t.says(sentence, "with none alone",
            "when(1); link(0, 1); end(); link(0, 2); edit(0, 0): 1; links(0): 1; call(0, 1); edit(0, 1): 1; "
            + "links(1): 2");
        t.says(PAGE, "0 and 11 apart from those beside them",
            "link(0, 0); edit(0, 0): 1; 2 x link(0, 0); edit(0, 11): 1; links(0): 1; links(1): 0; links(10): 0; "
            + "links(11): 2");
        t.says(HOW_MANY, "0, 30 and 100",
            "links(0): 0; 30 x link(0, 0); edit(0, 0): 1; links(0): 30; 10 x link(0, 0); edit(0, 1): 1; "
            + "10 x call(1, 0); edit(0, 2): 1; links(2): 100");
        t.says(sentence, "fewer behind an edit, more again behind an undo",
            "3 x link(5, 0); edit(0, 0): 1; link(5, 0); edit(0, 0): 2; links(0): 1; edit(0, 0): 3; links(0): 0; "
            + "undo(0, 0): 2; links(0): 1; undo(0, 0): 1; links(0): 3; undo(0, 0): 0; links(0): 0");
        noSuchPage("links");
    }

    private void broken() {
        t.of("Promise 28: broken");
        String sentence = "Returns how many links of a page are not good.";
        t.says(sentence, "one of two, and again as the other page is edited",
            "link(1, 4); link(1, 5); edit(0, 0): 1; broken(0): 2; anchor(4); edit(0, 1): 1; broken(0): 1; anchor(4); "
            + "anchor(5); edit(0, 1): 2; broken(0): 0; undo(0, 1): 1; broken(0): 1");
        t.says(sentence, "those that stand for none",
            "link(1, 4); edit(0, 0): 1; redirect(1); edit(0, 1): 1; broken(0): 1");
        t.says(sentence, "not those that it does not show with none",
            "when(1); link(1, 4); end(); edit(0, 0): 1; broken(0): 0");
        t.says(PAGE, "0 and 11 apart from those beside them",
            "link(5, 0); edit(0, 0): 1; 2 x link(5, 0); edit(0, 11): 1; broken(0): 1; broken(1): 0; broken(10): 0; "
            + "broken(11): 2");
        t.says(HOW_MANY, "0, and 100 of 100",
            "broken(0): 0; 10 x link(5, 0); edit(0, 1): 1; 10 x call(1, 0); edit(0, 2): 1; broken(2): 100; anchor(0); "
            + "edit(0, 5): 1; broken(2): 0; links(2): 100");
        t.says(HOW_MANY, "each as often as it is shown", "3 x link(5, 0); edit(0, 0): 1; broken(0): 3");
        t.says(sentence, "fewer behind an edit, more again behind an undo",
            "3 x link(5, 0); edit(0, 0): 1; link(5, 0); edit(0, 0): 2; broken(0): 1; edit(0, 0): 3; broken(0): 0; "
            + "undo(0, 0): 2; broken(0): 1; undo(0, 0): 1; broken(0): 3; undo(0, 0): 0; broken(0): 0");
        noSuchPage("broken");
    }

    private void firstBroken() {
        t.of("Promise 29: firstBroken");
        String sentence = "Returns the first link of a page that is not good.";
        t.says(sentence, "behind good ones, of the page itself or of one that it calls",
            "anchor(1); edit(0, 5): 1; link(5, 1); link(5, 2); link(5, 3); edit(0, 0): 1; firstBroken(0): 52; "
            + "link(5, 1); call(0, 0); link(6, 0); edit(0, 1): 1; firstBroken(1): 52; anchor(1); anchor(2); "
            + "edit(0, 5): 2; firstBroken(0): 53; anchor(1); anchor(2); anchor(3); edit(0, 5): 3; "
            + "firstBroken(0): NONE; firstBroken(1): 60");
        t.says(sentence, "the first of two that are broken, whichever is the greater",
            "link(7, 0); link(3, 0); edit(0, 0): 1; firstBroken(0): 70; link(3, 0); link(7, 0); edit(0, 0): 2; "
            + "firstBroken(0): 30");
        t.says(PAGE, "0 and 11 apart from those beside them",
            "link(5, 0); edit(0, 0): 1; link(5, 1); edit(0, 11): 1; firstBroken(0): 50; firstBroken(1): NONE; "
            + "firstBroken(10): NONE; firstBroken(11): 51");
        String returns = "Returns 10 times its page and its anchor, added; NONE if all are good.";
        t.says(returns, "0 and 119, and those beside them",
            "link(0, 0); edit(0, 1): 1; firstBroken(1): 0; link(0, 9); edit(0, 1): 2; firstBroken(1): 9; link(1, 0); "
            + "edit(0, 1): 3; firstBroken(1): 10; link(11, 9); edit(0, 1): 4; firstBroken(1): 119; link(11, 0); "
            + "edit(0, 1): 5; firstBroken(1): 110");
        t.says(returns, "the link's page, not the one for which it stands",
            "redirect(5); edit(0, 6): 1; link(6, 3); edit(0, 0): 1; firstBroken(0): 63");
        t.says(returns, "NONE, if it has none",
            "firstBroken(0): NONE; letter(1); anchor(2); edit(0, 0): 1; firstBroken(0): NONE; when(1); link(5, 5); "
            + "end(); edit(0, 0): 2; firstBroken(0): NONE");
        t.says(returns, "the hundredth of a hundred",
            "anchor(0); edit(0, 5): 1; 10 x link(5, 0); edit(0, 1): 1; 9 x call(1, 0); 9 x link(5, 0); link(5, 1); "
            + "edit(0, 2): 1; firstBroken(2): 51; broken(2): 1; links(2): 100");
        t.says(returns, "NONE, where an edit or an undo takes the broken one away",
            "anchor(0); edit(0, 5): 1; link(5, 0); link(5, 1); edit(0, 0): 1; firstBroken(0): 51; link(5, 0); "
            + "edit(0, 0): 2; firstBroken(0): NONE; edit(0, 0): 3; firstBroken(0): NONE; undo(0, 0): 2; "
            + "firstBroken(0): NONE; undo(0, 0): 1; firstBroken(0): 51; undo(0, 0): 0; firstBroken(0): NONE");
        noSuchPage("firstBroken");
    }

    private void linkedFrom() {
        t.of("Promise 30: linkedFrom");
        String sentence = "Returns the pages that have a link that is good, "
            + "and that leads to a page, or to one that stands for it.";
        String link = "link(0, 4); edit(0, 5): 1\n";
        t.says(sentence, "not, if the link is not good",
            link + "linkedFrom(0): 0; anchor(3); edit(0, 0): 1; linkedFrom(0): 0; anchor(4); edit(0, 0): 2; "
            + "linkedFrom(0): 32; undo(0, 0): 1; linkedFrom(0): 0");
        t.says(sentence, "one good link of two",
            "anchor(4); edit(0, 0): 1; link(0, 3); link(0, 4); edit(0, 5): 1; linkedFrom(0): 32; link(0, 4); "
            + "link(0, 3); edit(0, 5): 2; linkedFrom(0): 32");
        t.says(sentence, "to a redirect: that page, and the one for which it stands",
            "anchor(4); edit(0, 1): 1; redirect(1); edit(0, 0): 1\n" + link + "linkedFrom(0): 32; linkedFrom(1): 32");
        String three = "anchor(4); edit(0, 1): 1; redirect(1); edit(0, 2): 1; redirect(2); edit(0, 3): 1; "
            + "redirect(3); edit(0, 0): 1\n";
        t.says(sentence, "over three redirects, not for those between",
            three + link + "linkedFrom(0): 32; linkedFrom(1): 32; linkedFrom(2): 0; linkedFrom(3): 0");
        t.says(sentence, "not over four redirects",
            three + "redirect(0); edit(0, 6): 1; link(6, 4); edit(0, 5): 1; linkedFrom(6): 0; linkedFrom(1): 0");
        t.says(sentence, "a link to the page itself", "link(0, 4); anchor(4); edit(0, 0): 1; linkedFrom(0): 1");
        t.says(sentence, "a link of a called page: both have it",
            "anchor(4); edit(0, 0): 1\n" + link + "call(5, 0); edit(0, 6): 1; linkedFrom(0): 96");
        t.says(sentence, "not a link that is shown with a letter alone",
            "anchor(4); edit(0, 0): 1; when(1); link(0, 4); end(); edit(0, 5): 1; linkedFrom(0): 0; call(5, 1); "
            + "edit(0, 6): 1; linkedFrom(0): 64");
        t.says(sentence, "not a page that redirects to it alone",
            "anchor(4); edit(0, 0): 1; redirect(0); edit(0, 5): 1; linkedFrom(0): 0");
        t.says(PAGE, "0 and 11 apart from those beside them",
            "anchor(0); edit(0, 0): 1; anchor(0); edit(0, 11): 1; link(0, 0); edit(0, 5): 1; link(11, 0); "
            + "edit(0, 6): 1; linkedFrom(0): 32; linkedFrom(1): 0; linkedFrom(10): 0; linkedFrom(11): 64");
        t.says(SET, "none, the bits 0 and 11, and all",
            "linkedFrom(5): 0; anchor(0); link(5, 0); edit(0, 5): 1; linkedFrom(5): 32; link(5, 0); edit(0, 0): 1; "
            + "linkedFrom(5): 33; link(5, 0); edit(0, 11): 1; linkedFrom(5): 2081\n"
            + Script.each("link(5, 0); edit(0, #): 1", 1, 2, 3, 4, 6, 7, 8, 9, 10) + "linkedFrom(5): 4095");
        t.says(SET, "the hundredth item is the link",
            "anchor(0); edit(0, 0): 1\n" + Scenes.letters(10, 0, 1) + "9 x call(1, 0); 9 x letter(1); link(0, 0); "
            + "edit(0, 2): 1; linkedFrom(0): 4");
        t.says(sentence, "no more, where an edit or an undo takes the link away",
            "anchor(0); edit(0, 5): 1; letter(1); link(5, 0); edit(0, 0): 1; linkedFrom(5): 1; letter(1); "
            + "edit(0, 0): 2; linkedFrom(5): 0; edit(0, 0): 3; linkedFrom(5): 0; undo(0, 0): 2; undo(0, 0): 1; "
            + "linkedFrom(5): 1; undo(0, 0): 0; linkedFrom(5): 0");
        noSuchPage("linkedFrom");
    }

    private void breaches() {
        t.of("Promise 31: breaches");
        String sentence = "Returns how many breaches a page has.";
        t.says(sentence, "a rank just below the lock, at it, and above it",
            Scenes.RANKS + "letter(1); edit(1, 0): 1; lock(3, 0, 2): 0; breaches(0): 1; lock(3, 0, 1): 2; "
            + "breaches(0): 0; lock(3, 0, 0): 1; breaches(0): 0; lock(3, 0, 3): 0; breaches(0): 1; "
            + "approve(3, 0): true; breaches(0): 0");
        t.says(sentence, "of a page that is called and edited behind the lock's back",
            Scenes.RANKS + "letter(1); edit(3, 0): 1; callOn(0); letter(2); edit(3, 1): 1; lock(3, 1, 1): 0; "
            + "breaches(1): 0; letter(1); letter(2); edit(1, 0): 2; breaches(1): 0; lock(3, 1, 2): 1; breaches(1): 2");
        t.says(PAGE, "0 and 11 apart from those beside them",
            Scenes.RANKS + "letter(1); edit(0, 0): 1; 2 x letter(1); edit(0, 11): 1; lock(3, 0, 1): 0; "
            + "lock(3, 11, 1): 0; breaches(0): 1; breaches(1): 0; breaches(10): 0; breaches(11): 2");
        t.says(HOW_MANY, "0 of an empty page, and of a page without a lock",
            Scenes.RANKS + "lock(3, 0, 3): 0; breaches(0): 0; letter(1); edit(0, 1): 1; breaches(1): 0");
        t.says(HOW_MANY, "99 and 100 of a hundred items",
            Scenes.RANKS + Scenes.letters(10, 0, 0) + "9 x call(0, 0); 9 x letter(1); argument(); edit(0, 1): 1; "
            + "lock(3, 1, 1): 0; breaches(1): 99; undo(3, 1): 0; lock(3, 1, 0): 1; 10 x call(0, 0); edit(0, 1): 1; "
            + "lock(3, 1, 1): 0; breaches(1): 100");
        t.says(sentence, "fewer behind an edit, more again behind an undo",
            Scenes.RANKS + "3 x letter(1); edit(0, 0): 1; letter(1); edit(0, 0): 2; edit(0, 0): 3; call(0, 0); "
            + "edit(3, 1): 1; lock(3, 1, 1): 0; breaches(1): 0; breached(): 0; lock(3, 1, 0): 1; undo(0, 0): 2; "
            + "lock(3, 1, 1): 0; breaches(1): 1; lock(3, 1, 0): 1; undo(0, 0): 1; lock(3, 1, 1): 0; breaches(1): 3; "
            + "undo(3, 0): 0; breaches(1): 0; breached(): 0");
        t.says(sentence, "of the page itself: fewer behind an edit",
            Scenes.RANKS + "3 x letter(1); edit(0, 0): 1; letter(1); edit(0, 0): 2; lock(3, 0, 1): 0; breaches(0): 1; "
            + "lock(3, 0, 0): 1; edit(0, 0): 3; lock(3, 0, 1): 0; breaches(0): 0; breached(): 0");
        noSuchPage("breaches");
    }

    private void breached() {
        t.of("Promise 32: breached");
        String sentence = "Returns how many pages have breaches.";
        t.says(sentence, "0 of a new object, and of one that has locks alone, or low versions alone",
            "breached(): 0; setRank(3, 3): 0; lock(3, 0, 3): 0; breached(): 0; letter(1); edit(0, 1): 1; "
            + "breached(): 0");
        t.says(sentence, "a page of many breaches counts once",
            Scenes.RANKS + "30 x letter(1); edit(0, 0): 1; lock(3, 0, 1): 0; breaches(0): 30; breached(): 1; "
            + "lock(3, 0, 0): 1; breached(): 0");
        t.says(sentence, "the first and the last page",
            Scenes.RANKS + "letter(1); edit(0, 0): 1; letter(1); edit(0, 11): 1; lock(3, 0, 1): 0; breached(): 1; "
            + "lock(3, 11, 1): 0; breached(): 2; lock(3, 0, 0): 1; breached(): 1");
        t.says(sentence, "12, all pages",
            "setRank(3, 3): 0\n" + Script.each("letter(1); edit(0, #): 1; lock(3, #, 1): 0", ALL_PAGES)
            + "breached(): 12; approve(3, 5): true; breached(): 11");
        t.says(sentence, "the page that shows it, not the one from which it comes",
            Scenes.RANKS + "letter(1); edit(0, 0): 1; call(0, 0); edit(3, 1): 1; call(0, 0); edit(3, 2): 1; "
            + "lock(3, 1, 1): 0; lock(3, 2, 1): 0; breaches(0): 0; breached(): 2");
    }
}
