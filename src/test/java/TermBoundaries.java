/** The boundary cases of the words ahead of the promises: what it is, pages, what is shown, links, exceptions. */
final class TermBoundaries {
    private static final int[] ALL_PAGES = Script.from(0, 11);

    /** The page 11 calls 3, that 7, that 0, that 9, and that 5. */
    private static final String UP_AND_DOWN = "callOn(3); edit(0, 11): 1; callOn(7); edit(0, 3): 1; "
        + "callOn(0); edit(0, 7): 1; callOn(9); edit(0, 0): 1; callOn(5); edit(0, 9): 1\n";

    private static final String FALLING_CALLS_ON = "callOn(1); edit(0, 0): 1; callOn(2); edit(0, 1): 1; "
        + "callOn(3); edit(0, 2): 1; callOn(4); edit(0, 3): 1; callOn(5); edit(0, 4): 1\n";

    private final Boundaries t;

    TermBoundaries(Boundaries tests) {
        t = tests;
    }

    void all() {
        t.of("What it is");
        manyCalls();
        t.of("Terms");
        questions();
        t.of("Pages");
        pages();
        pieces();
        calledPages();
        t.of("What is shown");
        shown();
        whens();
        sources();
        extents();
        depths();
        t.of("Links");
        redirects();
        links();
        t.of("Exceptions");
        exceptions();
        constants();
    }

    // ---- what it is

    private void manyCalls() {
        String sentence = "An object is used for at most 512 calls after it has been made";
        t.says(sentence, "the 512th call is answered, behind questions",
            "letter(1): 1; 510 x version(0): 0; letter(1): 2");
        t.says(sentence, "the 512th call is answered, behind calls that throw",
            "letter(1): 1; 510 x letter(26): RANGE; letter(1): 2");
        t.says(sentence, "the 512th call is answered, behind edits and undos",
            "255 x setRank(0, 0); edit(0, 0): 1\n" + "edit(0, 0): 2; undo(0, 0): 1\n".repeat(127) + "edit(0, 0): 2; "
            + "undo(0, 0): 1");
        t.says(sentence, "as many edits as 512 calls allow",
            Script.each("20 x edit(0, #)", ALL_PAGES) + Script.each("19 x undo(0, #)", ALL_PAGES)
            + Script.each("version(#): 1", ALL_PAGES));
        t.says(sentence, "as many full texts as 512 calls allow",
            "30 x letter(1); edit(0, 0)\n".repeat(16) + "version(0): 16; extent(0): 30");
    }

    private void questions() {
        String sentence = "Questions change nothing.";
        String ofAPage = "version(#); rankOf(#); force(#); reaches(#); extent(#); items(#, NONE); items(#, 5); "
            + "standsFor(#)\n"
            + "links(#); broken(#); firstBroken(#); linkedFrom(#); breaches(#)\n";
        String ofAnItem = "sortAt(9, #, 0); itemAt(9, #, 0); itemAnew(9, #, 0); sourceAt(9, #, 0)\n";
        t.leavesAll(sentence, "of each page", Scenes.RICH, Script.each(ofAPage, ALL_PAGES) + "breached()");
        t.leavesAll(sentence, "of items", Scenes.RICH, Script.each(ofAnItem, -1, 0, 25));
        t.leavesAll(sentence, "of pages that there are not", Scenes.RICH, Script.each(ofAPage, -1, 12));
        t.leavesAll(sentence, "of items that there are not",
            Scenes.RICH,
            Script.each(ofAnItem, -2, 26)
            + Script.each("sortAt(9, 5, #); itemAt(9, 5, #); itemAnew(9, 5, #); sourceAt(9, 5, #)", -1, 3, Scenes.MAX));
    }

    // ---- pages

    private void pages() {
        String sentence = "There are the pages 0 to 11, each with a text, a row of up to 30 pieces, empty at first.";
        t.says(sentence, "each takes a text, also 0 and 11",
            Script.each("letter(#); edit(0, #): 1", ALL_PAGES) + Script.each("row(#, NONE): L#@#", ALL_PAGES));
        t.says(sentence, "-1 and 12 are none",
            Script.each("version(#): INDEX; call(#, 0): INDEX; callOn(#): INDEX" + "; link(#, 0): INDEX; "
                + "redirect(#): INDEX; edit(0, #): INDEX; undo(0, #): INDEX", -1, 12));
        t.says(sentence, "each is empty at first",
            Script.each("row(#, NONE)\n row(#, 7)\n extent(#): 0; reaches(#): 0", ALL_PAGES));
        String one = "argument(); letter(3); edit(0, 0): 1\n";
        t.says(sentence, "30 letters",
            "30 x letter(2); edit(0, 1): 1; items(1, NONE): 30; itemAt(1, NONE, 29): 2; itemAt(1, NONE, 30): NO_ITEM");
        t.says(sentence, "30 arguments",
            "30 x argument(); edit(0, 1): 1; items(1, 6): 30; itemAt(1, 6, 29): 6; itemAt(1, 6, 30): NO_ITEM");
        t.says(sentence, "30 calls",
            one + "30 x call(0, 4); edit(0, 1): 1; items(1, NONE): 60; itemAt(1, NONE, 59): 3; "
            + "itemAt(1, NONE, 60): NO_ITEM");
        t.says(sentence, "30 calls on",
            one + "30 x callOn(0); edit(0, 1): 1; items(1, NONE): 30; items(1, 8): 60; itemAt(1, 8, 58): 8");
        t.says(sentence, "15 WHENs and 15 ENDs, one in the other",
            "15 x when(2); 15 x end(); edit(0, 1): 1; row(1, NONE)\n row(1, 2)\n extent(1): 0");
        t.says(sentence, "15 WHENs and 15 ENDs, one behind the other",
            "when(2); end()\n".repeat(15) + "edit(0, 1): 1; row(1, 2)\n extent(1): 0");
        t.says(sentence, "30 anchors",
            "30 x anchor(9); edit(0, 1): 1; items(1, NONE): 30; sortAt(1, NONE, 29): ANCHOR");
        t.says(sentence, "30 links",
            "30 x link(11, 9); edit(0, 1): 1; links(1): 30; broken(1): 30; sortAt(1, NONE, 29): LINK");
        t.says(sentence, "30 redirects", "30 x redirect(0); edit(0, 1): 1; row(1, NONE)\n standsFor(1): 1");
        t.says(sentence, "no piece is the 31st, of whatever sort",
            "when(1); 29 x letter(1)\n"
            + Script.lines("letter(0): STATE", "argument(): STATE", "call(0, 0): STATE", "callOn(0): STATE",
                "when(0): STATE", "end(): STATE", "anchor(0): STATE", "link(0, 0): STATE", "redirect(0): STATE"));
    }

    private void pieces() {
        t.says("a letter, 0 to 25", "-1 and 26 are none",
            "letter(-1): RANGE; letter(0); letter(25); letter(26): RANGE; edit(0, 0): 1; row(0, NONE): L0@0 L25@0");
        t.says("the argument", "nothing with none, 0 with 0, 25 with 25",
            "argument(); edit(0, 0): 1; row(0, NONE)\n row(0, 0): L0@0\n row(0, 25): L25@0");
        t.says(
            "a call of a page, with a letter as its argument, with none, or with the argument of the page that calls",
            "the three of them",
            "argument(); edit(0, 0): 1; call(0, 0); call(0, NONE); callOn(0); edit(0, 1): 1\nrow(1, NONE): L0@0\n "
            + "row(1, 25): L0@0 L25@0");
        t.says("WHEN a letter", "0 and 25; -1 and 26 are none",
            "when(-1): RANGE; when(26): RANGE; when(0); letter(1); end(); when(25); letter(2); end(); edit(0, 0): 1; "
            + "row(0, 0): L1@0\n row(0, 25): L2@0\n row(0, NONE)");
        t.says("END, which closes the WHEN that was opened last", "the inner one of two",
            "when(1); letter(10); when(2); letter(11); end(); letter(12); end(); letter(13); edit(0, 0): 1\n"
            + "row(0, 1): L10@0 L12@0 L13@0\n row(0, 2): L13@0\n row(0, NONE): L13@0");
        t.says("END, which closes the WHEN that was opened last",
            "the innermost of fourteen, each letter behind its END",
            "14 x when(1); letter(5); 14 x end(); letter(6); edit(0, 0): 1; row(0, 1): L5@0 L6@0\n row(0, 0): L6@0",
            "when(1); when(1); when(2); end(); letter(5); end(); letter(6); end(); edit(0, 0): 1; "
            + "row(0, 1): L5@0 L6@0\n row(0, 2)");
        t.says("an anchor, 0 to 9", "-1 and 10 are none",
            "anchor(-1): RANGE; anchor(0); anchor(9); anchor(10): RANGE; edit(0, 0): 1; row(0, NONE): A0@0 A9@0");
        t.says("a link to an anchor of a page", "of the first page and the last",
            "link(0, 0); link(11, 9); link(0, 10): RANGE; link(0, -1): RANGE; edit(0, 0): 1; "
            + "row(0, NONE): K0@0 K119@0");
        t.says("a redirect to a page", "to the first and to the last",
            "redirect(11); edit(0, 0): 1; standsFor(0): 11; redirect(0); edit(0, 11): 1; standsFor(11): NONE");
        t.says("A piece is one of these", "one of each in a text",
            "letter(3); argument(); call(1, 4); callOn(1); when(2); anchor(5); end(); link(7, 8); redirect(9); "
            + "edit(0, 0): 1\nargument(); edit(0, 1): 1; row(0, 2): L3@0 L2@0 L4@1 L2@1 A5@0 K78@0\n "
            + "row(0, NONE): L3@0 L4@1 K78@0");
        String closed = "In a text each WHEN is closed by an END of it.";
        t.says(closed, "one that is open keeps the draft from being a text",
            "when(1); letter(2); edit(0, 0): STATE; version(0): 0; end(); edit(0, 0): 1");
        t.says(closed, "an END of one text closes none of another",
            "when(1); end(); edit(0, 0): 1; when(2); edit(0, 1): STATE");
        t.says(closed, "an END without a WHEN is none of a text",
            "end(): STATE; letter(1); end(): STATE; edit(0, 0): 1; row(0, NONE): L1@0");
    }

    private void calledPages() {
        String calls = "A page calls another one if a piece of its text is a call of that, whatever WHEN is around it.";
        String never = "when(1); when(2); call(#, NONE); end(); end(); edit(0, 1)";
        String neverOf0 = never.replace("#", "0");
        t.says(calls, "where it is never shown: reaches",
            neverOf0 + ": 1; reaches(1): 1; row(1, 1)\n row(1, 2)\n row(1, NONE)");
        t.says(calls, "where it is never shown: extent",
            "letter(1); edit(0, 0): 1; " + neverOf0 + ": 1; extent(1): 1; row(1, 1)");
        t.says(calls, "where it is never shown: force",
            "setRank(1, 1): 0; " + neverOf0 + ": 1; lock(1, 1, 1): 0; force(0): 1; edit(0, 0): LOCKED");
        t.says(calls, "where it is never shown: RING", never.replace("#", "1") + ": RING");
        t.says(calls, "where it is never shown: DEEP",
            Scenes.chain(0, 3, 7) + never.replace("#", "7") + ": DEEP; " + never.replace("#", "6") + ": 1");
        t.says(calls, "where it is never shown: LONG",
            Scenes.letters(30, 0, 0) + "when(1); when(2); 4 x call(0, NONE); end(); end(); edit(0, 1): LONG; when(1); "
            + "when(2); 3 x call(0, NONE); end(); end(); edit(0, 1): 1");
        t.says(calls, "where it is never shown: REACH",
            "setRank(1, 1): 0; edit(0, 0): 1; lock(1, 1, 1): 0\n" + never.replace("#", "0").replace("edit(0", "edit(1")
            + ": REACH");
        t.says(calls, "a call with none, with a letter, and with the argument",
            "call(1, NONE); call(2, 3); callOn(4); edit(0, 0): 1; reaches(0): 22");
        t.says(calls, "a link and a redirect are no calls", "link(1, 0); redirect(2); edit(0, 0): 1; reaches(0): 0");
        String reaches = "A page reaches those that it calls, those that these call, and so on.";
        t.says(reaches, "none, if it calls none", "letter(1); edit(0, 0): 1; reaches(0): 0");
        t.says(reaches, "five that call one another, none itself",
            Scenes.chainToFive() + "reaches(0): 0; reaches(1): 1; reaches(2): 3; reaches(3): 7; reaches(4): 15; "
            + "reaches(5): 31");
        t.says(reaches, "in whatever order they have been edited",
            "call(4, NONE); edit(0, 5): 1; call(2, NONE); edit(0, 3): 1; call(3, NONE); edit(0, 4): 1\nreaches(5): 28; "
            + "call(11, NONE); edit(0, 2): 1; reaches(5): 2076; undo(0, 3): 0; reaches(5): 24; reaches(4): 8");
        t.says(reaches, "five that call one another, each the one behind it",
            Scenes.fallingFromFive() + "reaches(5): 0; reaches(4): 32; reaches(3): 48; reaches(2): 56; reaches(1): 60; "
            + "reaches(0): 62; call(11, NONE); edit(0, 5): DEEP; undo(0, 0): 0; call(11, NONE); edit(0, 5): 1; "
            + "reaches(1): 2108; reaches(5): 2048");
        t.says(reaches, "six, up and down",
            UP_AND_DOWN + "reaches(11): 681; reaches(3): 673; reaches(7): 545; reaches(0): 544; reaches(9): 32; "
            + "reaches(5): 0");
        t.says(reaches, "all others",
            Script.each("call(#, NONE)", Script.from(0, 10)) + "edit(0, 11): 1; reaches(11): 2047");
    }

    // ---- what is shown

    private void shown() {
        String sentence = "What a page shows with an argument, a letter or none, is a row of items: "
            + "its pieces are gone through";
        t.says(sentence, "an empty text: no items",
            "row(0, NONE)\n row(0, 0)\n row(0, 25)\n edit(0, 0): 1; row(0, NONE)\n row(0, 0)");
        t.says(sentence, "in their order, the called page's in the place of the call",
            "letter(8); anchor(7); edit(0, 0): 1\nletter(1); call(0, NONE); link(2, 2); call(0, 4); letter(3); "
            + "edit(0, 1): 1; row(1, NONE): L1@1 L8@0 A7@0 K22@1 L8@0 A7@0 L3@1");
        t.says("a letter is an item, an anchor and a link are", "the same number in each sort",
            "letter(5); anchor(5); link(0, 5); edit(0, 0): 1; row(0, NONE): L5@0 A5@0 K5@0\n "
            + "row(0, 5): L5@0 A5@0 K5@0");
        String argument = "the argument is the letter that it is, and nothing, if there is none";
        t.says(argument, "each letter",
            "argument(); edit(0, 0): 1\n" + Script.each("row(0, #): L#@0", Script.from(0, 25)));
        t.says(argument, "nothing with none: what is behind it moves up",
            "argument(); letter(1); argument(); letter(2); edit(0, 0): 1\nrow(0, NONE): L1@0 L2@0\n "
            + "row(0, 0): L0@0 L1@0 L0@0 L2@0");
        String call = "for a call what the called page shows with the argument of the call";
        t.says(call, "an empty page: nothing",
            "letter(1); call(5, 3); letter(2); edit(0, 0): 1; row(0, NONE): L1@0 L2@0");
        t.says(call, "with none, though the page that calls has one",
            "argument(); edit(0, 0): 1; call(0, NONE); edit(0, 1): 1; row(1, NONE)\n row(1, 0)\n row(1, 25)");
        t.says(call, "with its letter, though the page that calls has another or none",
            "argument(); edit(0, 0): 1; call(0, 0); call(0, 25); edit(0, 1): 1\nrow(1, NONE): L0@0 L25@0\n "
            + "row(1, 7): L0@0 L25@0");
        t.says(call, "the text of now, not that of then",
            "letter(1); edit(0, 0): 1; call(0, NONE); edit(0, 1): 1; row(1, NONE): L1@0\nletter(2); letter(3); "
            + "edit(0, 0): 2; row(1, NONE): L2@0 L3@0\n undo(0, 0): 1; row(1, NONE): L1@0\n undo(0, 0): 0; "
            + "row(1, NONE)");
        t.says(call, "five deep",
            "argument(); letter(1); edit(0, 0): 1; callOn(0); edit(0, 1): 1; callOn(1); edit(0, 2): 1; callOn(2); "
            + "edit(0, 3): 1; callOn(3); edit(0, 4): 1\ncallOn(4); call(4, 6); edit(0, 5): 1; "
            + "row(5, NONE): L1@0 L6@0 L1@0\n row(5, 2): L2@0 L1@0 L6@0 L1@0");
        t.says(call, "five deep, each calls the one behind it, and the last one is edited and undone",
            "argument(); letter(1); edit(0, 5): 1\n" + FALLING_CALLS_ON + "row(0, NONE): L1@5\n row(0, 2): L2@5 L1@5\n "
            + "letter(3); edit(0, 5): 2; row(0, NONE): L3@5\n row(4, 2): L3@5\n undo(0, 5): 1; row(0, 2): L2@5 L1@5\n "
            + "undo(0, 5): 0; row(0, 2)");
        t.says(call, "five deep, up and down, and the last one is edited and undone",
            UP_AND_DOWN + "letter(3); edit(0, 5): 1; row(11, NONE): L3@5\n row(0, 7): L3@5\n undo(0, 5): 0; "
            + "row(11, NONE)");
        t.says("a redirect shows nothing", "alone, and among others",
            "redirect(1); edit(0, 0): 1; letter(4); edit(0, 1): 1; row(0, NONE)\n row(0, 3)\nletter(1); redirect(1); "
            + "letter(2); edit(0, 0): 2; row(0, NONE): L1@0 L2@0\n call(0, NONE); edit(0, 2): 1; "
            + "row(2, NONE): L1@0 L2@0");
    }

    private void whens() {
        String sentence = "what lies between a WHEN and its END is left out, if the argument is not its letter";
        t.says(sentence, "with none, and with the letters beside it",
            "when(7); letter(1); end(); edit(0, 0): 1; row(0, NONE)\n row(0, 6)\n row(0, 8)\n row(0, 7): L1@0");
        t.says(sentence, "the letter 0 is not none",
            "when(0); letter(1); end(); edit(0, 0): 1; row(0, NONE)\n row(0, 0): L1@0");
        t.says(sentence, "nothing between",
            "when(0); end(); letter(1); edit(0, 0): 1; row(0, NONE): L1@0\n row(0, 0): L1@0");
        t.says(sentence, "the same letter twice, one in the other",
            "when(3); when(3); letter(1); end(); letter(2); end(); edit(0, 0): 1; row(0, 3): L1@0 L2@0\n row(0, 4)\n "
            + "row(0, NONE)");
        t.says(sentence, "another letter in it: never",
            "when(3); when(4); letter(1); end(); letter(2); end(); edit(0, 0): 1; row(0, 3): L2@0\n row(0, 4)\n "
            + "row(0, NONE)");
        t.says(sentence, "the first letter once more in the other: never",
            "when(3); when(4); when(3); letter(1); end(); end(); end(); letter(2); edit(0, 0): 1; row(0, 3): L2@0\n "
            + "row(0, 4): L2@0");
        t.says(sentence, "each sort of piece in it",
            "argument(); edit(0, 1): 1; letter(9); when(2); letter(3); argument(); call(1, 4); callOn(1); anchor(5); "
            + "link(7, 8); redirect(9); end(); edit(0, 0): 1\nrow(0, 2): L9@0 L3@0 L2@0 L4@1 L2@1 A5@0 K78@0\n "
            + "row(0, NONE): L9@0\n row(0, 3): L9@0");
        String inner = "letter(1); when(2); letter(3); argument(); end(); edit(0, 0): 1\n";
        t.says(sentence, "in a page that is called with a letter or none",
            inner + "call(0, 2); call(0, NONE); call(0, 3); edit(0, 1): 1\nrow(1, NONE): L1@0 L3@0 L2@0 L1@0 L1@0\n "
            + "row(1, 2): L1@0 L3@0 L2@0 L1@0 L1@0");
        t.says(sentence, "in a page that is called with the argument",
            inner + "callOn(0); edit(0, 1): 1; row(1, NONE): L1@0\n row(1, 2): L1@0 L3@0 L2@0\n row(1, 3): L1@0");
        t.says(sentence, "around a call with the argument: both letters have to be it",
            inner + "when(2); callOn(0); end(); when(3); callOn(0); end(); edit(0, 1): 1; row(1, NONE)\n "
            + "row(1, 2): L1@0 L3@0 L2@0\n row(1, 3): L1@0");
        t.says(sentence, "around a call with a letter: that of the page that calls, then that of the call",
            inner + "when(3); call(0, 2); end(); edit(0, 1): 1; row(1, NONE)\n row(1, 2)\n row(1, 3): L1@0 L3@0 L2@0");
        t.says(sentence, "fourteen, one in the other",
            "14 x when(25); letter(1); argument(); 14 x end(); edit(0, 0): 1; row(0, 25): L1@0 L25@0\n row(0, 24)\n "
            + "row(0, NONE)");
        t.says(sentence, "ten, one behind the other",
            Script.each("when(#); letter(#); end()", Script.from(0, 9)) + "edit(0, 0): 1\n"
            + Script.each("row(0, #): L#@0", Script.from(0, 9)) + "row(0, 10)\n row(0, NONE)");
    }

    private void sources() {
        String sentence = "Each item comes from the page in whose text its piece is.";
        t.says(sentence, "of each sort, over two calls",
            "letter(1); argument(); anchor(2); link(3, 4); edit(0, 0): 1; callOn(0); edit(0, 11): 1; letter(5); "
            + "callOn(11); edit(0, 6): 1\nrow(6, 9): L5@6 L1@0 L9@0 A2@0 K34@0\n row(11, NONE): L1@0 A2@0 K34@0");
        t.says(sentence, "the argument, which the page that calls gives",
            "argument(); edit(0, 3): 1; call(3, 9); edit(0, 4): 1; row(4, NONE): L9@3");
        t.says(sentence, "from the page in whose text it is now",
            "letter(1); edit(0, 0): 1; callOn(0); edit(0, 1): 1; row(1, NONE): L1@0\n letter(1); edit(0, 1): 2; "
            + "row(1, NONE): L1@1");
    }

    private void extents() {
        String sentence = "The extent of a page is how many of its pieces are letters, arguments, anchors and links, "
            + "and the extents of the pages that it calls, each as often as it does so, together.";
        t.says(sentence, "0 of an empty text", "edit(0, 0): 1; extent(0): 0");
        t.says(sentence, "1 of one of each of these sorts",
            "letter(1); edit(0, 0): 1; argument(); edit(0, 1): 1; anchor(1); edit(0, 2): 1; link(1, 1); edit(0, 3): 1\n"
            + "extent(0): 1; extent(1): 1; extent(2): 1; extent(3): 1");
        t.says(sentence, "0 of calls of empty pages, WHENs, ENDs and redirects",
            "call(1, 2); callOn(3); when(4); end(); redirect(5); edit(0, 0): 1; extent(0): 0");
        t.says(sentence, "whatever WHEN is around them",
            "when(1); when(2); letter(1); argument(); anchor(1); link(1, 1); end(); end(); edit(0, 0): 1; "
            + "extent(0): 4; row(0, 1)\n row(0, NONE)");
        t.says(sentence, "each as often as it is called",
            Scenes.letters(3, 0, 0) + "call(0, NONE); call(0, 1); callOn(0); letter(1); edit(0, 1): 1; extent(1): 10\n"
            + "call(1, NONE); call(0, NONE); call(1, NONE); edit(0, 2): 1; extent(2): 23");
        t.says(sentence, "30 times", Scenes.letters(3, 0, 0) + "30 x callOn(0); edit(0, 1): 1; extent(1): 90");
        t.says(sentence, "of each page that there is",
            Script.each("# x letter(1); edit(0, #): 1", Script.from(1, 11))
            + Script.each("callOn(#); edit(0, 0); extent(0): #", Script.from(1, 11))
            + Script.each("callOn(#)", Script.from(1, 11)) + "edit(0, 0): 12; extent(0): 66; items(0, NONE): 66");
        t.says(sentence, "of the last page that calls each other one",
            "letter(1); edit(0, 0): 1; callOn(0); edit(0, 11): 1; extent(11): 1\n"
            + Script.each("# x letter(1); edit(0, #): 1; callOn(#); edit(0, 11); extent(11): #", Script.from(1, 10)));
        t.says(sentence, "with the text of now of a called page",
            Scenes.letters(3, 0, 0) + "2 x callOn(0); edit(0, 1): 1; extent(1): 6; edit(0, 0): 2; extent(1): 0; "
            + "undo(0, 0): 1; extent(1): 6; undo(0, 0): 0; extent(1): 0");
    }

    private void depths() {
        String sentence = "The depth of a page is 0 if it calls none, otherwise 1 more than "
            + "the greatest depth of those that it calls.";
        t.says(sentence, "0 of a page that calls none, though it links and redirects",
            Scenes.chainToFive() + "link(6, 0); redirect(6); edit(0, 0): 1; call(5, NONE); edit(0, 6): DEEP");
        t.says(sentence, "1 of a page that calls an empty one",
            "call(6, NONE); edit(0, 0): 1\n" + Scenes.chain(0, 1, 4) + "call(4, NONE); edit(0, 5): DEEP");
        t.says(sentence, "the greatest of those that it calls, the first or the last of its calls",
            Scenes.chainToFive() + "call(0, NONE); call(5, NONE); edit(0, 6): DEEP; call(5, NONE); call(0, NONE); "
            + "edit(0, 6): DEEP; call(4, NONE); call(0, NONE); call(3, NONE); edit(0, 6): 1");
        t.says(sentence, "each calls the one behind it: 5, and 6 of the page 0",
            "call(6, NONE); edit(0, 5): 1; call(5, NONE); edit(0, 4): 1; call(4, NONE); edit(0, 3): 1; call(3, NONE); "
            + "edit(0, 2): 1; call(2, NONE); edit(0, 1): 1; call(1, NONE); edit(0, 0): DEEP; call(2, NONE); "
            + "edit(0, 0): 1");
        t.says(sentence, "each calls the one behind it, and the last one calls another: 6 of the page 0",
            Scenes.fallingFromFive() + "call(6, NONE); edit(0, 5): DEEP; letter(1); edit(0, 5): 1");
        t.says(sentence, "up and down",
            UP_AND_DOWN + "call(1, NONE); edit(0, 5): DEEP; call(11, NONE); edit(0, 1): DEEP; call(3, NONE); "
            + "edit(0, 1): 1");
        t.says(sentence, "many calls of one page count once",
            "30 x call(6, NONE); edit(0, 0): 1; 30 x call(0, NONE); edit(0, 1): 1");
    }

    // ---- links

    private void redirects() {
        String alone = "A page whose text is a redirect alone stands for the page to which that leads";
        t.says(alone, "an empty text, and one that has no redirect, stand for themselves",
            "standsFor(0): 0; letter(1); edit(0, 0): 1; standsFor(0): 0; link(1, 0); edit(0, 0): 2; standsFor(0): 0");
        t.says(alone, "not with a piece ahead of it or behind it",
            "letter(1); redirect(5); edit(0, 0): 1; standsFor(0): 0; redirect(5); letter(1); edit(0, 0): 2; "
            + "standsFor(0): 0; redirect(5); redirect(5); edit(0, 0): 3; standsFor(0): 0\nargument(); redirect(5); "
            + "edit(0, 0): 4; standsFor(0): 0; redirect(5); call(7, 0); edit(0, 0): 5; standsFor(0): 0; when(1); "
            + "end(); redirect(5); edit(0, 0): 6; standsFor(0): 0");
        t.says(alone, "not between a WHEN and its END", "when(1); redirect(5); end(); edit(0, 0): 1; standsFor(0): 0");
        t.says(alone, "not a page that calls such a page",
            "redirect(5); edit(0, 0): 1; callOn(0); edit(0, 1): 1; standsFor(1): 1");
        t.says(alone, "with the text of now",
            "redirect(5); edit(0, 0): 1; letter(1); edit(0, 0): 2; standsFor(0): 0; undo(0, 0): 1; standsFor(0): 5; "
            + "undo(0, 0): 0; standsFor(0): 0");
        String four = "redirect(0); edit(0, 1): 1; redirect(1); edit(0, 2): 1; redirect(2); edit(0, 3): 1; "
            + "redirect(3); edit(0, 4): 1; redirect(4); edit(0, 5): 1\n";
        String upTo3 = "of that the same may be so, up to 3 redirects in all";
        t.says(upTo3, "one, two and three", four + "standsFor(1): 0; standsFor(2): 0; standsFor(3): 0");
        t.says(upTo3, "three, where an anchor of the last page is linked to",
            four + "anchor(1); edit(0, 0): 1; link(3, 1); edit(0, 11): 1; broken(11): 0; linkedFrom(0): 2048");
        String fourth = "if there is a fourth one, it stands for none";
        t.says(fourth, "four and five", four + "standsFor(4): NONE; standsFor(5): NONE");
        t.says(fourth, "four, where an anchor of the last page is linked to",
            four + "anchor(1); edit(0, 0): 1; link(4, 1); edit(0, 11): 1; broken(11): 1; linkedFrom(0): 0; "
            + "linkedFrom(4): 0");
        t.says(fourth, "the fourth one falls away",
            four + "letter(1); edit(0, 1): 2; standsFor(4): 1; standsFor(5): NONE; letter(1); edit(0, 2): 2; "
            + "standsFor(5): 2");
        t.says(fourth, "a redirect to itself",
            "redirect(0); edit(0, 0): 1; standsFor(0): NONE; redirect(0); edit(0, 1): 1; standsFor(1): NONE");
        t.says(fourth, "rings of two, three and four",
            "redirect(1); edit(0, 0): 1; redirect(0); edit(0, 1): 1; standsFor(0): NONE; standsFor(1): NONE\n"
            + "redirect(2); edit(0, 1): 2; redirect(0); edit(0, 2): 1; standsFor(0): NONE; redirect(3); edit(0, 2): 2; "
            + "redirect(0); edit(0, 3): 1; standsFor(0): NONE; standsFor(3): NONE");
    }

    private void links() {
        String good = "A link is good if its page stands for one, itself if it is no redirect, "
            + "that shows its anchor with no argument.";
        String link = "link(0, 4); edit(0, 1): 1\n";
        t.says(good, "not to an empty page", link + "broken(1): 1; linkedFrom(0): 0");
        t.says(good, "to a page with that anchor, not with those beside it",
            link + "anchor(3); anchor(5); edit(0, 0): 1; broken(1): 1; anchor(3); anchor(4); edit(0, 0): 2; "
            + "broken(1): 0");
        t.says(good, "not to a letter or a link of that number",
            link + "letter(4); link(0, 4); edit(0, 0): 1; broken(1): 1");
        t.says(good, "the anchors 0 and 9",
            "link(0, 0); link(0, 9); edit(0, 1): 1; anchor(9); edit(0, 0): 1; broken(1): 1; firstBroken(1): 0; "
            + "anchor(0); edit(0, 0): 2; broken(1): 1; firstBroken(1): 9");
        t.says(good, "to an anchor that is shown several times",
            link + "anchor(4); anchor(4); edit(0, 0): 1; broken(1): 0; linkedFrom(0): 2; anchor(4); edit(0, 2): 1; "
            + "2 x callOn(2); edit(0, 0): 2; broken(1): 0; 3 x callOn(2); edit(0, 0): 3; broken(1): 0; edit(0, 2): 2; "
            + "broken(1): 1");
        t.says(good, "to an anchor that is shown with a letter alone, and elsewhere with none",
            link + "when(1); anchor(4); end(); anchor(4); edit(0, 0): 1; broken(1): 0; anchor(4); when(1); anchor(4); "
            + "end(); edit(0, 0): 2; broken(1): 0");
        t.says(good, "to each of ten anchors of one page",
            Script.each("link(0, #)", Script.from(0, 9)) + "edit(0, 1): 1; broken(1): 10; "
            + Script.each("anchor(#)", Script.from(0, 9)) + "edit(0, 0): 1; broken(1): 0; "
            + Script.each("anchor(#)", Script.from(0, 8)) + "edit(0, 0): 2; broken(1): 1; firstBroken(1): 9");
        t.says(good, "the anchor as the last of a hundred items",
            Scenes.letters(10, 0, 2) + "9 x call(2, NONE); 9 x letter(1); anchor(4); edit(0, 0): 1; extent(0): 100; "
            + link + "broken(1): 0");
        t.says(good, "not where the anchor is shown with a letter alone",
            link + "when(1); anchor(4); end(); edit(0, 0): 1; broken(1): 1");
        t.says(good, "not where the anchor is shown with the letter 0 alone, which is not none",
            link + "when(0); anchor(4); end(); edit(0, 0): 1; broken(1): 1; firstBroken(1): 4; linkedFrom(0): 0");
        t.says(good, "where the anchor is shown by a called page, with the argument of the call",
            link + "when(1); anchor(4); end(); edit(0, 2): 1; callOn(2); call(2, 0); edit(0, 0): 1; broken(1): 1; "
            + "call(2, 1); edit(0, 0): 2; broken(1): 0");
        t.says(good, "of a redirect: not by an anchor of the redirect's own page",
            link + "redirect(2); edit(0, 0): 1; broken(1): 1; anchor(4); edit(0, 2): 1; broken(1): 0");
        t.says(good, "a redirect among other pieces: by its own anchor",
            link + "redirect(2); anchor(4); edit(0, 0): 1; broken(1): 0; redirect(2); letter(1); edit(0, 0): 2; "
            + "anchor(4); edit(0, 2): 1; broken(1): 1");
        t.says(good, "not to a page that stands for none", link + "redirect(0); edit(0, 0): 1; broken(1): 1");
        t.says(good, "to an anchor of its own page, ahead of it or behind it",
            "link(0, 4); edit(0, 0): 1; broken(0): 1; link(0, 4); anchor(4); edit(0, 0): 2; broken(0): 0; anchor(4); "
            + "link(0, 4); edit(0, 0): 3; broken(0): 0");
        String shows = "A page has the links that it shows with no argument.";
        t.says(shows, "not those between a WHEN and its END",
            "when(1); link(0, 0); end(); edit(0, 0): 1; links(0): 0; broken(0): 0; firstBroken(0): NONE");
        t.says(shows, "not those with the letter 0 alone, which is not none",
            "anchor(4); edit(0, 5): 1; when(0); link(0, 0); link(5, 4); end(); edit(0, 0): 1; links(0): 0; "
            + "broken(0): 0; firstBroken(0): NONE; linkedFrom(5): 0; callOn(0); edit(0, 1): 1; links(1): 0; "
            + "call(0, 0); edit(0, 1): 2; links(1): 2; broken(1): 1; linkedFrom(5): 2");
        t.says(shows, "those of called pages, with the argument of the call",
            "when(1); link(0, 0); end(); edit(0, 1): 1; callOn(1); edit(0, 2): 1; links(2): 0; call(1, 0); "
            + "edit(0, 2): 2; links(2): 0; call(1, 1); edit(0, 2): 3; links(2): 1; links(1): 0");
        t.says(shows, "each as often as it shows it",
            "link(0, 0); edit(0, 1): 1; 30 x callOn(1); edit(0, 2): 1; links(2): 30; broken(2): 30");
        t.says(shows, "not those of a page for which it stands",
            "link(0, 0); edit(0, 1): 1; redirect(1); edit(0, 2): 1; links(2): 0");
    }

    // ---- exceptions

    private void exceptions() {
        String index = "IndexOutOfBoundsException: there is no such page or user.";
        t.says(index, "-1 and 12 as page, -1 and 6 as user",
            Script.each("call(#, 0): INDEX; callOn(#): INDEX; link(#, 0): INDEX; redirect(#): INDEX" + "; "
                + "edit(0, #): INDEX; undo(0, #): INDEX; approve(0, #): INDEX; lock(0, #, 0): INDEX", -1, 12)
            + Script.each("edit(#, 0): INDEX; undo(#, 0): INDEX; approve(#, 0): INDEX; lock(#, 0, 0): INDEX; "
            + "setRank(#, 0): INDEX", -1, 6));
        t.says(index, "-1 and 12 as page of each question",
            Script.each("version(#): INDEX; rankOf(#): INDEX; force(#): INDEX; reaches(#): INDEX" + "; "
                + "extent(#): INDEX; items(#, 0): INDEX; sortAt(#, 0, 0): INDEX; itemAt(#, 0, 0): INDEX; "
                + "itemAnew(#, 0, 0): INDEX; sourceAt(#, 0, 0): INDEX" + "; standsFor(#): INDEX; links(#): INDEX; "
                + "broken(#): INDEX; firstBroken(#): INDEX; linkedFrom(#): INDEX; breaches(#): INDEX", -1, 12));
        t.says("IllegalArgumentException: another argument is out of its range.", "a letter, an anchor, a rank",
            "letter(26): RANGE; letter(-1): RANGE; call(0, 26): RANGE; call(0, -2): RANGE; when(26): RANGE; "
            + "when(-1): RANGE; anchor(10): RANGE; anchor(-1): RANGE; link(0, 10): RANGE; link(0, -1): RANGE; "
            + "lock(0, 0, 4): RANGE; lock(0, 0, -1): RANGE; setRank(0, 4): RANGE; setRank(0, -1): RANGE; "
            + "items(0, 26): RANGE; items(0, -2): RANGE");
        t.says("IllegalStateException, NoSuchElementException: as the method tells.",
            "a full draft, the version 0, no item",
            "edit(0, 0): 1; undo(0, 0): 0; undo(0, 0): STATE; end(): STATE; 30 x letter(1); letter(1): STATE; "
            + "itemAt(0, NONE, 0): NO_ITEM; itemAt(0, NONE, -1): NO_ITEM");
        String first = "If several apply, the one that is named first in the throws clause is thrown.";
        t.says(first, "a full draft",
            "30 x letter(1); letter(26): RANGE; call(12, 26): INDEX; call(12, 0): INDEX; call(0, 26): RANGE; "
            + "call(0, 0): STATE; callOn(12): INDEX; when(26): RANGE; anchor(10): RANGE; link(12, 10): INDEX; "
            + "link(12, 0): INDEX; link(0, 10): RANGE; link(0, 0): STATE; redirect(12): INDEX");
        t.says(first, "edits",
            "when(1); edit(6, 12): INDEX; edit(6, 0): INDEX; edit(0, 12): INDEX; undo(6, 0): INDEX; "
            + "undo(0, 12): INDEX; lock(6, 0, 4): INDEX; lock(0, 12, 4): INDEX; lock(0, 0, 4): RANGE; "
            + "setRank(6, 4): INDEX");
        t.says(first, "items",
            Script.each("items(12, #): INDEX; sortAt(12, #, -1): INDEX; itemAt(12, #, -1): INDEX; "
                + "itemAnew(12, #, -1): INDEX; sourceAt(12, #, -1): INDEX" + "; sortAt(0, #, -1): RANGE; "
                + "itemAt(0, #, -1): RANGE; itemAnew(0, #, -1): RANGE; sourceAt(0, #, -1): RANGE", -2, 26));
        String nothing = "A call that throws an exception changes nothing.";
        t.leavesAll(nothing, "each call with a wrong page or user",
            Scenes.RICH,
            "call(12, 0); callOn(12); link(12, 0); redirect(12); edit(6, 0); edit(0, 12); undo(6, 0); undo(0, 12)\n"
            + "approve(6, 0); approve(3, 12); lock(6, 0, 0); lock(3, 12, 3); setRank(6, 3); setRank(-1, 3)");
        t.leavesAll(nothing, "each call with another wrong argument",
            Scenes.RICH,
            "letter(26); call(0, 26); call(0, -2); when(26); anchor(10); link(0, 10); lock(3, 0, 4); lock(3, 0, -1); "
            + "setRank(0, 4); setRank(0, -1)");
        t.leavesAll(nothing, "each call in a wrong state",
            "20 x edit(0, 0); when(1); 29 x letter(1)",
            "letter(1); argument(); call(0, 0); callOn(0); when(1); end(); anchor(0); link(0, 0); redirect(0); "
            + "edit(0, 1); edit(0, 0); undo(0, 1)");
    }

    private void constants() {
        t.holds("The constants: NONE = -1: There is none.", "NONE", MacroWiki.NONE == -1);
        t.holds("LOCKED = -2, RING = -3, DEEP = -4, LONG = -5, REACH = -6: Refusals.", "each",
            MacroWiki.LOCKED == -2 && MacroWiki.RING == -3 && MacroWiki.DEEP == -4 && MacroWiki.LONG == -5
                && MacroWiki.REACH == -6);
        t.holds("LETTER = 0, ANCHOR = 1, LINK = 2: Sorts of items.", "each",
            MacroWiki.LETTER == 0 && MacroWiki.ANCHOR == 1 && MacroWiki.LINK == 2);
    }
}
