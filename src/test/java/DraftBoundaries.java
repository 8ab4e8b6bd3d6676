/** The boundary cases of the calls of the draft: promises 1 to 10. */
final class DraftBoundaries {
    private static final String HOW_MANY = "Returns how many pieces the draft has then.";
    private static final String IF_IT_HAS_30 = "Throws IllegalStateException if it has 30";
    private static final String IF_NO_PAGE = "Throws IndexOutOfBoundsException if there is no such page";
    private static final String IF_NO_LETTER = "Throws IllegalArgumentException if letter is out of range";
    private static final String IF_NO_ANCHOR = "Throws IllegalArgumentException if anchor is out of range";

    private final Boundaries t;

    DraftBoundaries(Boundaries tests) {
        t = tests;
    }

    void all() {
        newObject();
        letter();
        argument();
        call();
        callOn();
        when();
        end();
        anchor();
        link();
        redirect();
    }

    private void newObject() {
        t.of("Promise 1: A new object");
        String everyPage = Script.each("""
            version(#): 0; rankOf(#): 3; force(#): 0; reaches(#): 0; extent(#): 0
            items(#, NONE): 0; items(#, 0): 0; items(#, 25): 0
            standsFor(#): #; links(#): 0; broken(#): 0; firstBroken(#): NONE; linkedFrom(#): 0; breaches(#): 0
            """, Script.from(0, 11));
        t.says("Makes a wiki of empty pages.", "what each question answers about each page",
            everyPage + "breached(): 0");
        t.says("Makes a wiki of empty pages.", "no page shows an item, with none or with any letter",
            Script.each("row(#, NONE)\n row(#, 0)\n row(#, 25)", Script.from(0, 11)));
        t.says("Makes a wiki of empty pages.", "no version can be undone",
            Script.each("undo(0, #): STATE", Script.from(0, 11)));
    }

    // ---- what several calls have in common

    private void countsPieces(String call) {
        StringBuilder upTo30 = new StringBuilder();
        for (int pieces = 1; pieces <= 30; pieces++) {
            upTo30.append(call).append(": ").append(pieces).append('\n');
        }
        t.says(HOW_MANY, "1 as the first piece", call + ": 1");
        t.says(HOW_MANY, "1 to 30, of its own sort alone", upTo30.toString());
        t.says(HOW_MANY, "30 as the last one behind 29 letters", "29 x letter(1)\n" + call + ": 30");
        t.says(HOW_MANY, "1 again behind an edit", "3 x letter(1); edit(0, 0): 1\n" + call + ": 1");
        t.says(HOW_MANY, "1 again behind an edit that is refused",
            "letter(1); call(0, 1); edit(0, 0): RING\n" + call + ": 1");
        t.says(HOW_MANY, "one more behind an edit that throws",
            "when(1); letter(1); edit(0, 0): STATE\n" + call + ": 3");
        t.says(HOW_MANY, "one more behind an undo", "edit(0, 0): 1; letter(1); undo(0, 0): 0\n" + call + ": 2");
    }

    private void throwsIfFull(String call) {
        t.says(IF_IT_HAS_30, "the 31st piece, behind 30 letters",
            "30 x letter(1)\n" + call + ": STATE\n letter(2): STATE\n" + call + ": STATE\n edit(0, 0): 1; "
            + "items(0, NONE): 30; itemAt(0, NONE, 29): 1; reaches(0): 0");
        t.says(IF_IT_HAS_30, "the 31st piece, behind 30 of its own sort", "30 x " + call + "\n" + call + ": STATE");
        t.says(IF_IT_HAS_30, "not behind 29, and then at once",
            "29 x letter(1)\n" + call + ": 30\n" + call + ": STATE");
        t.says(IF_IT_HAS_30, "no more behind an edit of the 30", "30 x letter(1); edit(0, 0): 1\n" + call + ": 1");
        t.says(IF_IT_HAS_30, "no more behind an edit of the 30 that is refused",
            "29 x letter(1); call(0, 1): 30; edit(0, 0): RING\n" + call + ": 1");
        t.says(IF_IT_HAS_30, "still behind an edit of the 30 that throws",
            "29 x letter(1); when(1): 30; edit(0, 0): STATE\n" + call + ": STATE");
        t.says(IF_IT_HAS_30, "still behind an undo and an approve",
            "edit(0, 0): 1; 30 x letter(1); undo(0, 0): 0; approve(0, 0): false\n" + call + ": STATE");
    }

    private void refuses(String sentence, String what, String pattern, String exception, int[] values) {
        t.says(sentence, what, Scenes.RICH + Script.each(pattern + exception, values) + "letter(25): 4; end(): 5");
    }

    private void noSuchPage(String pattern, String patternWithMore) {
        refuses(IF_NO_PAGE, "-1, 12, others outside, and the ends of int", pattern, ": INDEX", Scenes.NO_PAGES);
        t.says(IF_NO_PAGE, "to a draft of 30 pieces too",
            "30 x letter(1)\n" + Script.each(pattern + ": INDEX", Scenes.NO_PAGES) + "letter(1): STATE");
        if (!patternWithMore.isEmpty()) {
            refuses(IF_NO_PAGE, "if the other argument is out of range too", patternWithMore, ": INDEX",
                Scenes.NO_PAGES);
            t.says(IF_NO_PAGE, "if the other argument is out of range too, to a draft of 30 pieces",
                "30 x letter(1)\n" + Script.each(patternWithMore + ": INDEX", Scenes.NO_PAGES));
        }
    }

    private void outOfRange(String sentence, String what, String pattern, int[] values) {
        refuses(sentence, what, pattern, ": RANGE", values);
        t.says(sentence, "to a draft of 30 pieces too",
            "30 x letter(1)\n" + Script.each(pattern + ": RANGE", values) + "letter(1): STATE");
    }

    // ---- each call

    private void letter() {
        t.of("Promise 2: letter");
        t.says("Adds a letter to the draft, which is empty at first.", "an edit ahead of it lays an empty text",
            "edit(0, 0): 1; row(0, NONE)\n extent(0): 0; letter(7): 1; edit(0, 0): 2; row(0, NONE): L7@0");
        t.says("letter: 0 to 25", "0, the least, and 25, the greatest",
            "letter(0): 1; letter(25): 2; edit(0, 0): 1; row(0, NONE): L0@0 L25@0");
        t.says("letter: 0 to 25", "each one",
            Script.each("letter(#)", Script.from(0, 25)) + "edit(0, 0): 1; items(0, NONE): 26\n"
            + Script.each("itemAt(0, NONE, #): #", Script.from(0, 25)));
        outOfRange(IF_NO_LETTER, "-1, which is NONE, 26, others outside, and the ends of int", "letter(#)",
            Scenes.NO_LETTERS);
        countsPieces("letter(7)");
        throwsIfFull("letter(7)");
    }

    private void argument() {
        t.of("Promise 3: argument");
        t.says("Adds the argument.", "nothing with none, else the letter, from 0 to 25",
            "argument(): 1; edit(0, 0): 1; row(0, NONE)\n row(0, 0): L0@0\n row(0, 25): L25@0");
        t.says("Adds the argument.", "thirty of them",
            "30 x argument(); edit(0, 0): 1; items(0, NONE): 0; items(0, 5): 30; itemAt(0, 5, 29): 5; extent(0): 30");
        countsPieces("argument()");
        throwsIfFull("argument()");
    }

    private void call() {
        t.of("Promise 4: call");
        String called = "letter(3); argument(); edit(0, 0): 1\n";
        t.says("Adds a call with a letter, or with none.", "a call with none hands on no argument",
            called + "call(0, NONE): 1; edit(0, 1): 1; row(1, NONE): L3@0\n row(1, 7): L3@0");
        t.says("Adds a call with a letter, or with none.", "a call with a letter hands on that alone",
            called + "call(0, 9): 1; edit(0, 1): 1; row(1, NONE): L3@0 L9@0\n row(1, 7): L3@0 L9@0");
        t.says("page: the page that is called", "0 and 11",
            "call(11, 7): 1; edit(0, 0): 1; reaches(0): 2048",
            "call(0, 7): 1; edit(0, 11): 1; reaches(11): 1");
        t.says("page: the page that is called", "each one",
            Script.each("call(#, 7)", Script.from(1, 11)) + "edit(0, 0): 1; reaches(0): 4094");
        t.says("letter: 0 to 25", "0, the least, and 25, the greatest",
            called + "call(0, 0): 1; call(0, 25): 2; edit(0, 1): 1; row(1, NONE): L3@0 L0@0 L3@0 L25@0");
        t.says("NONE for none", "-1, just below the letters",
            called + "call(0, -1): 1; edit(0, 1): 1; row(1, 4): L3@0");
        noSuchPage("call(#, 7)", "call(#, 26)");
        outOfRange(IF_NO_LETTER, "-2, just below NONE, 26, others outside, and the ends of int", "call(3, #)",
            Scenes.NO_ARGUMENTS);
        countsPieces("call(3, 7)");
        countsPieces("call(3, NONE)");
        throwsIfFull("call(3, 7)");
    }

    private void callOn() {
        t.of("Promise 5: callOn");
        t.says("Adds a call with the argument of the page that calls.", "none, if that has none, else its letter",
            "letter(3); argument(); edit(0, 0): 1; callOn(0): 1; edit(0, 1): 1\nrow(1, NONE): L3@0\n "
            + "row(1, 0): L3@0 L0@0\n row(1, 25): L3@0 L25@0");
        t.says("Adds a call with the argument of the page that calls.", "handed on over five calls",
            "argument(); edit(0, 0): 1; callOn(0); edit(0, 1): 1; callOn(1); edit(0, 2): 1; callOn(2); edit(0, 3): 1\n"
            + "callOn(3); edit(0, 4): 1; callOn(4); edit(0, 5): 1; row(5, NONE)\n row(5, 4): L4@0");
        t.says("page: the page that is called", "0 and 11",
            "callOn(11): 1; edit(0, 0): 1; reaches(0): 2048",
            "callOn(0): 1; edit(0, 11): 1; reaches(11): 1");
        t.says("page: the page that is called", "each one",
            Script.each("callOn(#)", Script.from(1, 11)) + "edit(0, 0): 1; reaches(0): 4094");
        noSuchPage("callOn(#)", "");
        countsPieces("callOn(3)");
        throwsIfFull("callOn(3)");
    }

    private void when() {
        t.of("Promise 6: when");
        t.says("Adds a WHEN.", "what lies behind it is shown with its letter alone",
            "when(7): 1; letter(3): 2; end(): 3; edit(0, 0): 1; row(0, 7): L3@0\n row(0, 6)\n row(0, 8)\n "
            + "row(0, NONE)");
        t.says("letter: 0 to 25", "0, the least, and 25, the greatest",
            "when(0): 1; letter(3); end(); when(25): 4; letter(4); end(); edit(0, 0): 1\nrow(0, 0): L3@0\n "
            + "row(0, 25): L4@0\n row(0, NONE)\n row(0, 1)\n row(0, 24)");
        outOfRange(IF_NO_LETTER, "-1, which is NONE, 26, others outside, and the ends of int", "when(#)",
            Scenes.NO_LETTERS);
        t.says(IF_NO_LETTER, "then no WHEN is open", "when(26): RANGE; end(): STATE; when(-1): RANGE; edit(0, 0): 1");
        countsPieces("when(7)");
        throwsIfFull("when(7)");
        t.says(IF_IT_HAS_30, "then no further WHEN is open",
            "when(1); 28 x letter(1); end(): 30; when(2): STATE; end(): STATE; edit(0, 0): 1");
    }

    private void end() {
        t.of("Promise 7: end");
        String ifFullOrNoneOpen = "Throws IllegalStateException if it has 30, or no WHEN is open";
        t.says("Adds an END.", "what lies behind it is shown again",
            "when(7); letter(3); end(): 3; letter(4); edit(0, 0): 1; row(0, NONE): L4@0\n row(0, 7): L3@0 L4@0");
        t.says("Adds an END.", "at once behind its WHEN",
            "when(7): 1; end(): 2; letter(4): 3; edit(0, 0): 1; row(0, NONE): L4@0");
        StringBuilder ends = new StringBuilder("15 x when(7)\n");
        for (int pieces = 16; pieces <= 30; pieces++) {
            ends.append("end(): ").append(pieces).append('\n');
        }
        t.says(HOW_MANY, "2 as the second piece", "when(7); end(): 2");
        t.says(HOW_MANY, "16 to 30 behind fifteen WHENs", ends + "edit(0, 0): 1");
        t.says(HOW_MANY, "30 as the last one behind 29 others", "when(7); 28 x letter(1); end(): 30; edit(0, 0): 1");
        t.says(HOW_MANY, "2 again behind an edit", "when(7); end(); letter(1); edit(0, 0): 1; when(7): 1; end(): 2");
        t.says(HOW_MANY, "one more behind an edit that throws", "when(7); edit(0, 0): STATE; end(): 2");
        t.says(ifFullOrNoneOpen, "30 pieces, and a WHEN is open",
            "when(7); 29 x letter(1); end(): STATE; letter(1): STATE; edit(0, 0): STATE");
        t.says(ifFullOrNoneOpen, "30 pieces, and no WHEN is open", "30 x letter(1); end(): STATE; edit(0, 0): 1");
        t.says(ifFullOrNoneOpen, "29 pieces, and no WHEN is open", "29 x letter(1); end(): STATE; letter(2): 30");
        t.says(ifFullOrNoneOpen, "an empty draft", "end(): STATE; letter(1): 1");
        t.says(ifFullOrNoneOpen, "one WHEN, which is closed", "when(7); end(): 2; end(): STATE; letter(1): 3");
        t.says(ifFullOrNoneOpen, "two WHENs, which are closed",
            "when(7); when(8); end(): 3; end(): 4; end(): STATE; letter(1): 5; edit(0, 0): 1");
        t.says(ifFullOrNoneOpen, "the draft is empty behind an edit", "when(7); end(); edit(0, 0): 1; end(): STATE");
        t.says(ifFullOrNoneOpen, "the draft is empty behind an edit that is refused",
            "when(7); end(); call(0, 1); edit(0, 0): RING; end(): STATE");
        t.says(ifFullOrNoneOpen, "a WHEN in the text of a page is none of the draft",
            "when(7); end(); edit(0, 0): 1; when(1); end(); undo(0, 0): 0; end(): STATE");
    }

    private void anchor() {
        t.of("Promise 8: anchor");
        t.says("Adds an anchor.", "an item of the sort ANCHOR", "anchor(4): 1; edit(0, 0): 1; row(0, NONE): A4@0");
        t.says("anchor: 0 to 9", "0, the least, and 9, the greatest",
            "anchor(0): 1; anchor(9): 2; edit(0, 0): 1; row(0, NONE): A0@0 A9@0");
        t.says("anchor: 0 to 9", "each one",
            Script.each("anchor(#)", Script.from(0, 9)) + "edit(0, 0): 1\n"
            + Script.each("itemAt(0, NONE, #): #", Script.from(0, 9)) + "items(0, NONE): 10");
        outOfRange(IF_NO_ANCHOR, "-1, 10, others outside, and the ends of int", "anchor(#)", Scenes.NO_ANCHORS);
        countsPieces("anchor(7)");
        throwsIfFull("anchor(7)");
    }

    private void link() {
        t.of("Promise 9: link");
        t.says("Adds a link.", "an item of the sort LINK, and no call",
            "link(3, 4): 1; edit(0, 0): 1; row(0, NONE): K34@0\n reaches(0): 0");
        t.says("page: the page to which it leads", "0 and 11",
            "link(0, 5): 1; link(11, 5): 2; edit(0, 0): 1; row(0, NONE): K5@0 K115@0");
        t.says("page: the page to which it leads", "each one, that of the text too",
            Script.each("link(#, 0)", Script.from(0, 11)) + "edit(0, 5): 1; items(5, NONE): 12\nitemAt(5, NONE, 0): 0\n"
            + Script.each("itemAt(5, NONE, #): #0", Script.from(1, 11)));
        t.says("anchor: 0 to 9: the anchor there", "0, the least, and 9, the greatest",
            "link(0, 0): 1; link(0, 9): 2; link(11, 0): 3; link(11, 9): 4; edit(0, 0): 1\n"
            + "row(0, NONE): K0@0 K9@0 K110@0 K119@0");
        noSuchPage("link(#, 7)", "link(#, 10)");
        outOfRange(IF_NO_ANCHOR, "-1, 10, others outside, and the ends of int", "link(3, #)", Scenes.NO_ANCHORS);
        countsPieces("link(3, 7)");
        throwsIfFull("link(3, 7)");
    }

    private void redirect() {
        t.of("Promise 10: redirect");
        t.says("Adds a redirect.", "which is no item, and no call",
            "redirect(3): 1; edit(0, 0): 1; row(0, NONE)\n extent(0): 0; reaches(0): 0; standsFor(0): 3");
        t.says("page: the page to which it leads", "0 and 11",
            "redirect(0): 1; edit(0, 11): 1; standsFor(11): 0",
            "redirect(11): 1; edit(0, 0): 1; standsFor(0): 11");
        t.says("page: the page to which it leads", "the page of the text itself too",
            "redirect(0): 1; edit(0, 0): 1; standsFor(0): NONE");
        noSuchPage("redirect(#)", "");
        countsPieces("redirect(3)");
        throwsIfFull("redirect(3)");
    }
}
