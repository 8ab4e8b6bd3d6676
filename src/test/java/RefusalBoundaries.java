/** The boundary cases of the sections 'Locks' and 'Edits': ranks, forces, breaches, and each refusal in its order. */
final class RefusalBoundaries {
    private static final int[] ALL_PAGES = Script.from(0, 11);

    private final Boundaries t;

    RefusalBoundaries(Boundaries tests) {
        t = tests;
    }

    void all() {
        t.of("Locks");
        usersAndLocks();
        forces();
        versionRanks();
        approvals();
        breaches();
        t.of("Edits");
        laid();
        locked();
        ring();
        deep();
        lengthy();
        reach();
        reachedBefore();
        orderOfEdit();
        emptied();
        undone();
        undoLocked();
        undoRefused();
        orderOfUndo();
        kept();
    }

    // ---- locks

    private void usersAndLocks() {
        String users = "There are the users 0 to 5, each with a rank, 0 to 3, 0 at first.";
        t.says(users, "0 to 5, each 0 at first", Script.each("setRank(#, 0): 0", Script.from(0, 5)));
        t.says(users, "-1 and 6 are none",
            Script.each("setRank(#, 0): INDEX; edit(#, 0): INDEX; undo(#, 0): INDEX; approve(#, 0): INDEX; "
                + "lock(#, 0, 0): INDEX", -1, 6));
        t.says(users, "ranks of 0 and 3, not of -1 and 4",
            "setRank(5, 3): 0; setRank(5, 4): RANGE; setRank(5, -1): RANGE; setRank(5, 0): 3; setRank(5, 0): 0");
        t.says(users, "0 at first: no user lays a text on a page that is locked by 1",
            "setRank(0, 1): 0; lock(0, 0, 1): 0; edit(0, 0): 1\n"
            + Script.each("edit(#, 0): LOCKED; undo(#, 0): LOCKED; approve(#, 0): false; "
            + "lock(#, 0, 0): LOCKED", 1, 2, 3, 4, 5));
        String locks = "Each page has a lock, a rank, 0 at first.";
        t.says(locks, "each is 0 at first", Script.each("force(#): 0; lock(0, #, 0): 0", ALL_PAGES));
        t.says(locks, "0 and 3, not -1 and 4",
            "setRank(0, 3): 0; lock(0, 0, 3): 0; lock(0, 0, 4): RANGE; lock(0, 0, -1): RANGE; lock(0, 0, 0): 3; "
            + "lock(0, 0, 0): 0");
        t.says(locks, "0 at first: a user of the rank 0 may do all there",
            Script.each("edit(5, #): 1; lock(5, #, 0): 0; undo(5, #): 0", ALL_PAGES));
    }

    private void forces() {
        String sentence = "The force of a page is the greatest one of its own lock "
            + "and the locks of all pages that reach it.";
        t.says(sentence, "its own lock alone, 0 to 3",
            Scenes.RANKS + Script.each("lock(3, #, #): 0; force(#): #", Script.from(0, 3)));
        for (int own = 0; own <= 3; own++) {
            StringBuilder lines = new StringBuilder(Scenes.RANKS + "call(0, NONE); edit(3, 1): 1; lock(3, 0, " + own
                + "): 0\n");
            for (int calling = 0; calling <= 3; calling++) {
                lines.append("lock(3, 1, " + calling + "); force(0): " + Math.max(own, calling) + "; force(1): "
                    + calling + "\n");
            }
            t.says(sentence, "its own lock " + own + ", and 0 to 3 of a page that calls it", lines.toString());
        }
        t.says(sentence, "of two pages that call it, the first or the last",
            Scenes.RANKS + "call(5, 0); edit(0, 0): 1; call(5, 0); edit(0, 11): 1; lock(3, 0, 2): 0; force(5): 2; "
            + "lock(3, 11, 3): 0; force(5): 3; lock(3, 0, 0): 2; force(5): 3; lock(3, 11, 1): 3; force(5): 1");
        t.says(sentence, "of a page that reaches it over five calls",
            Scenes.RANKS + Scenes.chainToFive() + "lock(3, 5, 3): 0\n" + Script.each("force(#): 3", Script.from(0, 5))
            + "force(6): 0; lock(3, 5, 0): 3\n" + Script.each("force(#): 0", Script.from(0, 5)));
        t.says(sentence, "of a page that reaches it over five calls, each of the page behind it",
            Scenes.RANKS + Scenes.fallingFromFive() + "lock(3, 0, 3): 0\n"
            + Script.each("force(#): 3", Script.from(0, 5)) + "force(6): 0; undo(3, 2): 0; force(2): 3; force(3): 0; "
            + "force(5): 0");
        t.says(sentence, "of a page in the middle: for those that it reaches, not for those that reach it",
            Scenes.RANKS + Scenes.chainToFive() + "lock(3, 3, 2): 0; force(5): 0; force(4): 0; force(3): 2; "
            + "force(2): 2; force(1): 2; force(0): 2");
        t.says(sentence, "not of pages that it calls, that link to it, or that redirect to it",
            Scenes.RANKS + "call(1, NONE); edit(3, 0): 1; link(0, 0); edit(3, 2): 1; redirect(0); edit(3, 3): 1; "
            + "lock(3, 1, 3): 0; lock(3, 2, 3): 0; lock(3, 3, 3): 0; force(0): 0");
        t.says(sentence, "no more, where the call is undone or laid over",
            Scenes.RANKS + "call(0, NONE); edit(3, 1): 1; lock(3, 1, 3): 0; force(0): 3; edit(3, 1): 2; force(0): 0; "
            + "undo(3, 1): 1; force(0): 3; lock(3, 1, 0): 3; undo(3, 1): 0; force(0): 0");
    }

    private void versionRanks() {
        String editor = "Each version of a page has the rank that its editor had";
        t.says(editor, "0 to 3", Scenes.RANKS + Script.each("edit(#, #): 1; rankOf(#): #", Script.from(0, 3)));
        t.says(editor, "had then: a later rank of the editor does not matter",
            "setRank(5, 2): 0; edit(5, 0): 1; setRank(5, 3): 2; rankOf(0): 2; setRank(5, 0): 3; rankOf(0): 2; "
            + "edit(5, 0): 2; rankOf(0): 0; undo(5, 0): 1; rankOf(0): 2");
        t.says(editor, "not the lock or the force of the page",
            Scenes.RANKS + "lock(3, 0, 1): 0; edit(2, 0): 1; rankOf(0): 2; lock(3, 0, 3): 1; rankOf(0): 2");
        String first = "the version 0, the empty text, has the rank 3";
        t.says(first, "of each page", Script.each("rankOf(#): 3; row(#, NONE)", ALL_PAGES));
        t.says(first, "again, where all is undone",
            "letter(1); edit(0, 0): 1; rankOf(0): 0; undo(0, 0): 0; rankOf(0): 3; row(0, NONE)");
        t.says(first, "not an empty text that is edited", "edit(0, 0): 1; rankOf(0): 0");
        t.says(first, "so that it can be undone to, and reached, under the lock 3",
            Scenes.RANKS + "edit(3, 0): 1; lock(3, 0, 3): 0; call(1, 0); edit(3, 0): 2; undo(3, 0): 1; undo(3, 0): 0");
    }

    private void approvals() {
        String sentence = "A version can be approved; it has the rank of who approves it then, if that is greater.";
        t.says(sentence, "one above, the same, one below",
            Scenes.RANKS + "edit(1, 0): 1; approve(0, 0): false; rankOf(0): 1; approve(1, 0): false; rankOf(0): 1; "
            + "approve(2, 0): true; rankOf(0): 2; approve(1, 0): false; rankOf(0): 2");
        t.says(sentence, "from 0 to 3 at once", Scenes.RANKS + "edit(0, 0): 1; approve(3, 0): true; rankOf(0): 3");
        t.says(sentence, "the rank of then",
            "setRank(5, 2): 0; edit(0, 0): 1; approve(5, 0): true; setRank(5, 3): 2; rankOf(0): 2; setRank(5, 0): 3; "
            + "rankOf(0): 2");
        t.says(sentence, "by its own editor, who has risen",
            "edit(5, 0): 1; approve(5, 0): false; setRank(5, 1): 0; approve(5, 0): true; rankOf(0): 1");
        t.says(sentence, "that version alone, also when it comes back",
            Scenes.RANKS + "edit(0, 0): 1; approve(2, 0): true; edit(0, 0): 2; rankOf(0): 0; undo(0, 0): 1; "
            + "rankOf(0): 2; undo(0, 0): 0; edit(0, 0): 1; rankOf(0): 0");
        t.says(sentence, "not the pages that it calls or that call it",
            Scenes.RANKS + "edit(0, 0): 1; call(0, 0); edit(0, 1): 1; call(1, 0); edit(0, 2): 1; approve(3, 1): true; "
            + "rankOf(0): 0; rankOf(1): 3; rankOf(2): 0");
    }

    private void breaches() {
        String sentence = "A breach of a page is an item that it shows with no argument, and that comes "
            + "from a page whose version of now has a rank below the lock of the page that shows it.";
        for (int rank = 0; rank <= 3; rank++) {
            StringBuilder own = new StringBuilder(Scenes.RANKS + "letter(1); edit(" + rank + ", 0): 1\n");
            StringBuilder called = new StringBuilder(Scenes.RANKS + "letter(1); edit(" + rank + ", 0): 1; call(0, 5); "
                + "edit(3, 1): 1\n");
            for (int lock = 0; lock <= 3; lock++) {
                int breaches = rank < lock ? 1 : 0;
                own.append("lock(3, 0, " + lock + "); breaches(0): " + breaches + "; breached(): " + breaches + "\n");
                called.append("lock(3, 1, " + lock + "); breaches(1): " + breaches + "; breaches(0): 0; breached(): "
                    + breaches + "\n");
            }
            t.says(sentence, "a version of the rank " + rank + ", each lock, an item of its own", own.toString());
            t.says(sentence, "a version of the rank " + rank + ", each lock, an item of a called page",
                called.toString());
        }
        t.says(sentence, "not what is shown with a letter alone",
            Scenes.RANKS + "argument(); when(1); letter(1); end(); edit(0, 0): 1; lock(3, 0, 3): 0; breaches(0): 0; "
            + "callOn(0); edit(3, 1): 1; lock(3, 1, 3): 0; breaches(1): 0; breached(): 0");
        t.says(sentence, "not what is shown with the letter 0 alone, which is not none",
            Scenes.RANKS + "when(0); letter(1); end(); edit(0, 0): 1; lock(3, 0, 3): 0; breaches(0): 0; breached(): 0; "
            + "call(0, 0); edit(0, 1): 1; lock(3, 1, 3): 0; breaches(1): 1; breached(): 1");
        t.says(sentence, "the called page's argument, which the call gives",
            Scenes.RANKS + "argument(); edit(0, 0): 1; call(0, 1); edit(3, 1): 1; lock(3, 1, 1): 0; breaches(1): 1; "
            + "breaches(0): 0");
        t.says(sentence, "letters, anchors and links, each as often as it is shown",
            Scenes.RANKS + "letter(1); anchor(1); link(1, 1); edit(0, 0): 1; 3 x callOn(0); edit(3, 1): 1; "
            + "lock(3, 1, 1): 0; breaches(1): 9");
        t.says(sentence, "by the page that it comes from, not by the one between",
            Scenes.RANKS + "letter(1); edit(2, 0): 1; call(0, 0); letter(2); edit(0, 1): 1; call(1, 0); edit(3, 2): 1; "
            + "lock(3, 2, 2): 0; breaches(2): 1; lock(3, 2, 3): 2; breaches(2): 2; lock(3, 2, 1): 3; breaches(2): 1");
        t.says(sentence, "by the lock of the page that shows it, not by its force",
            Scenes.RANKS + "letter(1); edit(0, 0): 1; call(0, 0); edit(0, 1): 1; lock(3, 1, 3): 0; force(0): 3; "
            + "breaches(0): 0; breaches(1): 1");
        t.says(sentence, "the version of now",
            Scenes.RANKS + "letter(1); edit(3, 0): 1; letter(1); edit(0, 0): 2; lock(3, 0, 1): 0; breaches(0): 1; "
            + "undo(3, 0): 1; breaches(0): 0");
        t.says(sentence, "none of an empty page below its lock",
            Scenes.RANKS + "edit(0, 0): 1; lock(3, 0, 3): 0; rankOf(0): 0; breaches(0): 0");
    }

    // ---- edits

    private void laid() {
        String sentence = "An edit lays the draft of pieces as a new version of a page.";
        t.says(sentence, "an empty draft: an empty text",
            "letter(1); edit(0, 0): 1; edit(0, 0): 2; row(0, NONE)\n undo(0, 0): 1; row(0, NONE): L1@0");
        t.says(sentence, "a draft of 30",
            "29 x letter(1); letter(2): 30; edit(0, 0): 1; items(0, NONE): 30; itemAt(0, NONE, 28): 1; "
            + "itemAt(0, NONE, 29): 2");
        t.says(sentence, "a draft that goes on later changes no version",
            "letter(1); edit(0, 0): 1; letter(2); letter(3); row(0, NONE): L1@0\n edit(0, 1): 1; row(0, NONE): L1@0\n "
            + "row(1, NONE): L2@1 L3@1");
        t.says(sentence, "the same text twice makes two versions",
            "letter(1); edit(0, 0): 1; letter(1); edit(0, 0): 2; version(0): 2");
    }

    private void locked() {
        String sentence = "LOCKED, if the rank of the user is below the force of the page as it is ahead of the edit";
        for (int force = 0; force <= 3; force++) {
            StringBuilder own = new StringBuilder(Scenes.RANKS + "lock(3, 0, " + force + "): 0\n");
            StringBuilder calling = new StringBuilder(Scenes.RANKS + "call(0, NONE); edit(0, 11): 1; lock(3, 11, "
                + force + "): 0\n");
            int version = 0;
            for (int rank = 0; rank <= 3; rank++) {
                version += rank >= force ? 1 : 0;
                String row = "letter(" + rank + "); edit(" + rank + ", 0): " + (rank < force ? "LOCKED" : version)
                    + "; version(0): " + version + "\n";
                own.append(row);
                calling.append(row);
            }
            t.says(sentence, "each rank, the page's own lock " + force, own.toString());
            t.says(sentence, "each rank, the lock of a page that calls it " + force, calling.toString());
        }
        t.says(sentence, "the lock of a page that reaches it over five calls",
            Scenes.RANKS + Scenes.chainToFive() + "lock(3, 5, 2): 0; edit(1, 0): LOCKED; edit(2, 0): 1");
        t.says(sentence, "not the lock of a page that it calls",
            Scenes.RANKS + "lock(3, 1, 3): 0; call(1, NONE); edit(0, 0): 1; edit(0, 0): 2");
        t.says(sentence, "an empty draft too", Scenes.RANKS + "lock(1, 0, 1): 0; edit(0, 0): LOCKED; version(0): 0");
        t.says(sentence, "the rank of now, not that of then",
            "setRank(5, 1): 0; lock(5, 0, 1): 0; edit(5, 0): 1; setRank(5, 0): 1; edit(5, 0): LOCKED; "
            + "setRank(5, 1): 0; edit(5, 0): 2");
        t.says(sentence, "no more, where the page that calls it does so no more",
            Scenes.RANKS + "call(0, NONE); edit(1, 1): 1; lock(1, 1, 1): 0; edit(0, 0): LOCKED; edit(1, 1): 2; "
            + "edit(0, 0): 1");
    }

    private void ring() {
        String sentence = "RING, if the page would reach itself";
        t.says(sentence, "by a call of itself, with none, a letter, or the argument",
            "call(0, NONE); edit(0, 0): RING; call(0, 3); edit(0, 0): RING; callOn(0); edit(0, 0): RING; "
            + "version(0): 0");
        t.says(sentence, "the last of thirty pieces",
            "29 x letter(1); callOn(0): 30; edit(0, 0): RING; call(11, 0); edit(0, 0): 1");
        t.says(sentence, "over one other page",
            "call(11, 0); edit(0, 0): 1; call(0, 0); edit(0, 11): RING; call(1, 0); edit(0, 11): 1");
        t.says(sentence, "over five other pages",
            Scenes.chainToFive() + "call(5, NONE); edit(0, 0): RING; call(6, NONE); edit(0, 6): RING");
        t.says(sentence, "over five other pages, each calls the one behind it",
            Scenes.fallingFromFive() + "call(0, NONE); edit(0, 5): RING; call(5, NONE); edit(0, 5): RING; "
            + "call(3, NONE); edit(0, 5): RING; call(6, NONE); edit(0, 6): RING");
        t.says(sentence, "of the first page with the last",
            "call(0, NONE); edit(0, 11): 1; call(11, NONE); edit(0, 0): RING; undo(0, 11): 0; call(11, NONE); "
            + "edit(0, 0): 1; call(0, NONE); edit(0, 11): RING");
        t.says(sentence, "not over links and redirects",
            "link(0, 0); edit(0, 0): 1; redirect(0); edit(0, 0): 2; call(1, 0); edit(0, 0): 3; redirect(0); "
            + "edit(0, 1): 1; link(0, 0); edit(0, 1): 2");
        t.says(sentence, "not over a call that is there no more",
            "call(1, 0); edit(0, 0): 1; edit(0, 0): 2; call(0, 0); edit(0, 1): 1; call(1, 0); edit(0, 0): RING; "
            + "undo(0, 1): 0; call(1, 0); edit(0, 0): 3");
        t.says(sentence, "two ways to one page are none",
            "call(1, 0); edit(0, 0): 1; call(0, 0); call(1, 0); edit(0, 2): 1; reaches(2): 3");
    }

    private void deep() {
        String sentence = "DEEP, if some page would have a depth above 5";
        t.says(sentence, "the page itself: 5 is laid, 6 is not",
            Scenes.chainToFive() + "reaches(5): 31; call(5, NONE); edit(0, 6): DEEP; version(6): 0; call(4, NONE); "
            + "edit(0, 6): 1");
        t.says(sentence, "a page that calls it: 5 is laid, 6 is not",
            Scenes.chain(0, 2, 6) + "call(0, NONE); edit(0, 1): DEEP; letter(1); edit(0, 1): 1; undo(0, 6): 0; "
            + "call(0, NONE); edit(0, 1): 2; reaches(5): 31");
        t.says(sentence, "each calls the one behind it: 5 is laid, 6 is not",
            Scenes.fallingFromFive() + "reaches(0): 62; call(6, NONE); edit(0, 5): DEEP; version(5): 0; undo(0, 0): 0; "
            + "call(6, NONE); edit(0, 5): 1; call(1, NONE); edit(0, 0): DEEP; version(0): 0; call(2, NONE); "
            + "edit(0, 0): 1; call(0, NONE); edit(0, 11): DEEP");
        t.says(sentence, "two rows of five, each calls the one behind it",
            Scenes.fallingFromFive() + "call(11, NONE); edit(0, 10): 1; call(10, NONE); edit(0, 9): 1; call(9, NONE); "
            + "edit(0, 8): 1; call(8, NONE); edit(0, 7): 1; call(7, NONE); edit(0, 6): 1; call(6, NONE); "
            + "edit(0, 5): DEEP; call(11, NONE); edit(0, 4): 2; call(10, NONE); edit(0, 4): DEEP");
        t.says(sentence, "pages on both sides: 5 is laid, 6 is not",
            Scenes.chain(0, 1, 2) + Scenes.chain(0, 4, 6) + "call(2, NONE); edit(0, 3): DEEP; call(1, NONE); "
            + "edit(0, 3): 1; reaches(6): 59");
        t.says(sentence, "a page that is empty has the depth 0",
            Scenes.chain(0, 1, 4) + "call(11, NONE); edit(0, 0): 1; call(10, NONE); edit(0, 11): DEEP");
        t.says(sentence, "the deepest of three calls",
            Scenes.chainToFive() + "call(0, 0); call(5, 0); call(4, 0); edit(0, 6): DEEP; call(0, 0); call(4, 0); "
            + "call(3, 0); edit(0, 6): 1");
        t.says(sentence, "calls with the argument too",
            "callOn(0); edit(0, 1): 1; callOn(1); edit(0, 2): 1; callOn(2); edit(0, 3): 1; callOn(3); edit(0, 4): 1; "
            + "callOn(4); edit(0, 5): 1; callOn(5); edit(0, 6): DEEP");
        t.says(sentence, "far above: two rows of five",
            Scenes.chainToFive() + Scenes.chain(0, 7, 11) + "call(11, NONE); edit(0, 0): DEEP; call(5, NONE); "
            + "edit(0, 6): DEEP; version(6): 0; reaches(11): 1984");
    }

    private void lengthy() {
        String sentence = "LONG, if some page would have an extent above 100";
        t.says(sentence, "the page itself: 100 is laid, 101 is not",
            Scenes.letters(10, 0, 0) + "10 x call(0, NONE); letter(1); edit(0, 1): LONG; version(1): 0; "
            + "10 x call(0, NONE); edit(0, 1): 1; extent(1): 100; items(1, NONE): 100");
        for (String piece : new String[] {"letter(1)", "argument()", "anchor(1)", "link(0, 1)"}) {
            t.says(sentence, "the 101st is " + piece,
                Scenes.letters(10, 0, 0) + "10 x call(0, NONE); " + piece + "; edit(0, 1): LONG; 9 x call(0, NONE); "
                + "10 x " + piece + "; edit(0, 1): 1; extent(1): 100");
        }
        t.says(sentence, "calls of empty pages, WHENs, ENDs and redirects are not counted",
            Scenes.letters(10, 0, 0) + "10 x call(0, NONE); call(2, 1); when(1); end(); redirect(2); edit(0, 1): 1; "
            + "extent(1): 100");
        t.says(sentence, "what no argument shows is counted",
            Scenes.letters(10, 0, 0) + "10 x call(0, NONE); when(1); when(2); letter(1); end(); end(); "
            + "edit(0, 1): LONG; when(1); 10 x call(0, NONE); end(); edit(0, 1): 1; items(1, NONE): 0");
        t.says(sentence, "a page that calls it: 100 is laid, 101 is not",
            "call(0, NONE); letter(1); edit(0, 1): 1; 5 x call(1, NONE); edit(0, 2): 1; 20 x letter(1); "
            + "edit(0, 0): LONG; version(0): 0; 19 x letter(1); edit(0, 0): 1; extent(2): 100; extent(1): 20");
        t.says(sentence, "the first page, or the last",
            Scenes.letters(10, 0, 5) + "10 x call(5, NONE); letter(1); edit(0, 0): LONG; 10 x call(5, NONE); "
            + "letter(1); edit(0, 11): LONG; 10 x call(5, NONE); edit(0, 0): 1; 10 x call(5, NONE); edit(0, 11): 1; "
            + "11 x letter(1); edit(0, 5): LONG; undo(0, 0): 0; 11 x letter(1); edit(0, 5): LONG; undo(0, 11): 0; "
            + "11 x letter(1); edit(0, 5): 2");
        t.says(sentence, "the first page alone, where that calls it, or the last alone",
            Scenes.letters(10, 0, 5) + "10 x call(5, NONE); edit(0, 0): 1; 11 x letter(1); edit(0, 5): LONG",
            Scenes.letters(10, 0, 5) + "10 x call(5, NONE); edit(0, 11): 1; 11 x letter(1); edit(0, 5): LONG");
        t.says(sentence, "calls of each page",
            Script.each("30 x letter(1); edit(0, #): 1; 4 x call(#, NONE); " + "edit(0, 0): LONG; 3 x call(#, NONE); "
                + "edit(0, 0): 1; undo(0, 0): 0", Script.from(1, 11)));
        t.says(sentence, "a page that reaches it over five calls",
            Scenes.letters(10, 0, 0) + "10 x call(0, NONE); edit(0, 1): 1\n" + Scenes.chain(0, 2, 5)
            + "11 x letter(1); edit(0, 0): LONG; extent(5): 100; letter(1); call(4, NONE); edit(0, 5): LONG");
        t.says(sentence, "far above: thirty calls of thirty, five deep",
            manyCalls() + "letter(1); edit(0, 0): LONG; 30 x letter(1); edit(0, 0): LONG; extent(5): 0; letter(1); "
            + "edit(0, 4): 2; extent(5): 30; extent(0): 0");
    }

    private static String manyCalls() {
        return "30 x call(0, NONE); edit(0, 1): 1; 30 x call(1, NONE); edit(0, 2): 1; 30 x call(2, NONE); "
            + "edit(0, 3): 1; 30 x call(3, NONE); edit(0, 4): 1; 30 x call(4, NONE); edit(0, 5): 1\n";
    }

    private void reach() {
        String sentence = "REACH, if the page would reach, and had not reached ahead of the edit, "
            + "a page whose version of now has a rank below the force of the page.";
        for (int force = 0; force <= 3; force++) {
            StringBuilder own = new StringBuilder(Scenes.RANKS);
            StringBuilder calling = new StringBuilder(Scenes.RANKS + "call(11, NONE); edit(3, 10): 1; lock(3, 10, "
                + force + "): 0\n");
            StringBuilder over = new StringBuilder(Scenes.RANKS + "lock(3, 11, " + force + "): 0\n");
            int version = 0;
            for (int rank = 0; rank <= 3; rank++) {
                String laid = "letter(1); edit(" + rank + ", " + rank + "): 1\n";
                own.append(laid + "lock(3, " + (rank + 4) + ", " + force + "): 0; call(" + rank + ", NONE); edit(3, "
                    + (rank + 4) + "): " + (rank < force ? "REACH" : 1) + "\n");
                version += rank < force ? 0 : 1;
                calling.append(laid + "callOn(" + rank + "); edit(3, 11): " + (rank < force ? "REACH" : version)
                    + "\n");
                over.append(laid + "call(" + rank + ", 1); edit(3, " + (rank + 4) + "): 1; call(" + (rank + 4)
                    + ", NONE); edit(3, 11): " + (rank < force ? "REACH" : version) + "\n");
            }
            t.says(sentence, "each rank, the page's own lock " + force, own.toString());
            t.says(sentence, "each rank, the lock of a page that calls it " + force, calling.toString());
            t.says(sentence, "each rank, over another page, the lock " + force, over.toString());
        }
        t.says(sentence, "the version 0 has the rank 3",
            Scenes.RANKS + "lock(3, 0, 3): 0; call(1, NONE); edit(3, 0): 1");
        t.says(sentence, "one of three, the first or the last",
            Scenes.RANKS + "edit(0, 1): 1; lock(3, 0, 1): 0; call(1, NONE); call(2, NONE); call(3, NONE); "
            + "edit(3, 0): REACH; call(2, NONE); call(3, NONE); call(1, NONE); edit(3, 0): REACH; call(2, NONE); "
            + "call(3, NONE); edit(3, 0): 1");
        t.says(sentence, "the last of five that call one another",
            Scenes.RANKS + "edit(0, 0): 1\n" + Scenes.chain(3, 1, 4) + "lock(3, 5, 1): 0; call(4, NONE); "
            + "edit(3, 5): REACH; approve(1, 0): true; call(4, NONE); edit(3, 5): 1");
        t.says(sentence, "the version of now, not the one before it",
            Scenes.RANKS + "edit(3, 0): 1; edit(0, 0): 2; lock(3, 1, 1): 0; call(0, NONE); edit(3, 1): REACH; "
            + "undo(0, 0): 1; call(0, NONE); edit(3, 1): 1");
        t.says(sentence, "not by links and redirects",
            Scenes.RANKS + "edit(0, 0): 1; lock(3, 1, 3): 0; link(0, 0); edit(3, 1): 1; redirect(0); edit(3, 1): 2");
        t.says(sentence, "not the rank of the page itself",
            Scenes.RANKS + "edit(0, 1): 1; lock(3, 1, 3): 0; call(2, 0); edit(3, 1): 2");
        t.says(sentence, "the rank of the user does not help",
            Scenes.RANKS + "edit(0, 0): 1; lock(1, 1, 1): 0; call(0, 0); edit(1, 1): REACH; call(0, 0); "
            + "edit(3, 1): REACH");
    }

    private void reachedBefore() {
        String sentence = "and had not reached ahead of the edit";
        String reached = Scenes.RANKS + "edit(0, 0): 1; call(0, 0); edit(3, 1): 1; lock(3, 1, 3): 0\n";
        t.says(sentence, "a page that it calls already",
            reached + "call(0, 0); letter(1); edit(3, 1): 2; 30 x callOn(0); edit(3, 1): 3");
        t.says(sentence, "one more beside it that it has not called",
            reached + "edit(2, 2): 1; call(0, 0); call(2, 0); edit(3, 1): REACH; approve(3, 2): true; call(0, 0); "
            + "call(2, 0); edit(3, 1): 2");
        t.says(sentence, "a page that it reaches another way now",
            reached + "call(0, 0); edit(3, 2): 1; call(2, 0); edit(3, 1): 2; call(0, 0); edit(3, 1): 3");
        t.says(sentence, "a page that it had called, and calls no more",
            reached + "edit(3, 1): 2; call(0, 0); edit(3, 1): REACH; undo(3, 1): REACH; approve(3, 0): true; "
            + "undo(3, 1): 1");
        t.says(sentence, "a page of which the rank has fallen since",
            Scenes.RANKS + "edit(3, 0): 1; call(0, 0); edit(3, 1): 1; edit(0, 0): 2; lock(3, 1, 3): 0; call(0, 0); "
            + "edit(3, 1): 2; call(0, 0); edit(3, 2): 1; call(2, 0); edit(3, 1): 3");
        t.says(sentence, "behind a refused edit it has not been reached",
            Scenes.RANKS + "edit(0, 0): 1; lock(3, 1, 1): 0; call(0, 0); edit(3, 1): REACH; call(0, 0); "
            + "edit(3, 1): REACH; reaches(1): 0");
    }

    /** All sets of what refuses an edit: the first of the set in the document's order is the answer. */
    private void orderOfEdit() {
        String[] pieces = {"", "call(6, NONE)\n", "call(5, NONE)\n", "4 x call(0, NONE)\n", "call(7, NONE)\n"};
        String[] refusals = {"LOCKED", "RING", "DEEP", "LONG", "REACH"};
        String scene = "setRank(3, 3): 0\n" + Scenes.letters(30, 3, 0) + "call(11, NONE); edit(3, 1): 1\n"
            + Scenes.chain(3, 2, 5) + "edit(0, 7): 1; lock(3, 6, 3): 0\n";
        for (int set = 0; set < 32; set++) {
            StringBuilder lines = new StringBuilder(scene);
            String answer = "1";
            String named = "";
            for (int i = 4; i >= 0; i--) {
                if ((set >> i & 1) == 1) {
                    lines.append(pieces[i]);
                    answer = refusals[i];
                    named = " " + refusals[i] + named;
                }
            }
            lines.append("edit(" + (set % 2 == 1 ? 0 : 3) + ", 6): " + answer + "; version(6): " + (set == 0 ? 1 : 0));
            t.says("It is refused, in this order: LOCKED", "what applies is" + (set == 0 ? " none" : named),
                lines.toString());
        }
    }

    private void emptied() {
        String sentence = "The draft is empty behind an edit, also if that is refused.";
        t.says(sentence, "behind one that is laid", "3 x letter(1); edit(0, 0): 1; letter(1): 1");
        t.says(sentence, "behind one of 30 pieces that is laid", "30 x letter(1); edit(0, 0): 1; letter(1): 1");
        t.says(sentence, "LOCKED",
            Scenes.RANKS + "lock(1, 0, 1): 0; 3 x letter(1); edit(0, 0): LOCKED; letter(2): 1; edit(1, 0): 1; "
            + "row(0, NONE): L2@0");
        t.says(sentence, "RING", "3 x call(0, 0); edit(0, 0): RING; letter(2): 1; edit(0, 0): 1; row(0, NONE): L2@0");
        t.says(sentence, "DEEP",
            Scenes.chainToFive() + "3 x call(5, 0); edit(0, 6): DEEP; letter(2): 1; edit(0, 6): 1; row(6, NONE): L2@6");
        t.says(sentence, "LONG",
            Scenes.hundred() + "3 x call(1, 0); edit(0, 2): LONG; letter(2): 1; edit(0, 2): 1; row(2, NONE): L2@2");
        t.says(sentence, "REACH",
            Scenes.RANKS + "edit(0, 0): 1; lock(1, 1, 1): 0; 3 x call(0, 0); edit(1, 1): REACH; letter(2): 1; "
            + "edit(1, 1): 1; row(1, NONE): L2@1");
        t.says(sentence, "30 pieces, refused",
            "30 x callOn(0); edit(0, 0): RING; letter(2): 1; edit(0, 0): 1; row(0, NONE): L2@0");
        t.says(sentence, "WHENs too",
            "when(1); end(); callOn(0); edit(0, 0): RING; end(): STATE; letter(2): 1; edit(0, 0): 1; "
            + "row(0, NONE): L2@0");
        t.says(sentence, "not behind one that throws",
            "3 x letter(1); edit(0, 12): INDEX; letter(1): 4; edit(6, 0): INDEX; when(1): 5; edit(0, 0): STATE; "
            + "letter(1): 6");
    }

    private void undone() {
        String sentence = "To undo an edit drops the latest version of a page; the one before is that of now.";
        t.says(sentence, "the text, its rank and its calls",
            Scenes.RANKS + "letter(1); call(2, 0); edit(1, 0): 1; letter(2); link(4, 0); edit(2, 0): 2; "
            + "row(0, NONE): L2@0 K40@0\n undo(0, 0): 1; row(0, NONE): L1@0\n rankOf(0): 1; reaches(0): 4; "
            + "extent(0): 1; links(0): 0; version(0): 1");
        t.says(sentence, "the version 0 behind the first one",
            "letter(1); edit(0, 0): 1; undo(0, 0): 0; row(0, NONE)\n rankOf(0): 3; extent(0): 0; undo(0, 0): STATE");
        t.says(sentence, "what is dropped does not come back",
            "letter(1); edit(0, 0): 1; letter(2); edit(0, 0): 2; undo(0, 0): 1; letter(3); edit(0, 0): 2; "
            + "row(0, NONE): L3@0\n undo(0, 0): 1; row(0, NONE): L1@0");
        t.says(sentence, "by another user than its editor", "edit(0, 0): 1; undo(5, 0): 0");
        t.says(sentence, "twenty, one behind the other",
            "20 x edit(0, 0); 20 x undo(0, 0); version(0): 0; undo(0, 0): STATE; edit(0, 0): 1");
        t.says(sentence, "a page that is reached: those that call it show what comes back",
            "letter(1); edit(0, 0): 1; letter(2); anchor(3); edit(0, 0): 2; call(0, NONE); edit(0, 1): 1; "
            + "row(1, NONE): L2@0 A3@0\n undo(0, 0): 1; row(1, NONE): L1@0");
    }

    private void undoLocked() {
        String sentence = "with LOCKED also if the rank of the version that comes back is below the force of the page.";
        for (int force = 0; force <= 3; force++) {
            for (int rank = 0; rank <= 3; rank++) {
                StringBuilder own = new StringBuilder(Scenes.RANKS);
                StringBuilder calling = new StringBuilder(Scenes.RANKS);
                for (int back = 0; back <= 3; back++) {
                    boolean refused = rank < force || back < force;
                    String laid = "edit(" + back + ", " + back + "): 1; edit(3, " + back + "): 2\n";
                    String undo = "undo(" + rank + ", " + back + "): " + (refused ? "LOCKED" : 1) + "\n";
                    own.append(laid + "lock(3, " + back + ", " + force + "): 0\n" + undo);
                    calling.append(laid + "call(" + back + ", 1); edit(3, " + (back + 4) + "): 1; lock(3, " + (back
                        + 4) + ", " + force + "): 0\n" + undo);
                }
                t.says(sentence, "each rank that comes back, the user's rank " + rank + ", the own lock " + force,
                    own.toString());
                t.says(sentence,
                    "each rank that comes back, the user's rank " + rank + ", the lock of a calling page " + force,
                    calling.toString());
            }
        }
        t.says(sentence, "the version 0, of the rank 3, comes back under each lock",
            Scenes.RANKS + Script.each("edit(0, #): 1; lock(3, #, #): 0; undo(3, #): 0", Script.from(0, 3)));
        t.says(sentence, "the rank of the version that is dropped does not matter",
            Scenes.RANKS + "edit(3, 0): 1; edit(0, 0): 2; lock(3, 0, 3): 0; undo(3, 0): 1");
        t.says(sentence, "a version that has been approved",
            Scenes.RANKS + "edit(0, 0): 1; approve(2, 0): true; edit(3, 0): 2; lock(3, 0, 3): 0; undo(3, 0): LOCKED; "
            + "lock(3, 0, 2): 3; undo(3, 0): 1");
    }

    private void undoRefused() {
        String sentence = "It is refused likewise, the text that comes back taken for that of an edit";
        t.says(sentence, "LOCKED, if the rank of the user is below the force",
            Scenes.RANKS + "edit(3, 0): 1; edit(3, 0): 2; lock(3, 0, 2): 0; undo(1, 0): LOCKED; undo(2, 0): 1");
        t.says(sentence, "RING: the page would reach itself",
            "call(1, 0); edit(0, 0): 1; edit(0, 0): 2; call(0, 0); edit(0, 1): 1; undo(0, 0): RING; version(0): 2; "
            + "undo(0, 1): 0; undo(0, 0): 1");
        t.says(sentence, "RING: over five other pages",
            "call(5, 0); edit(0, 0): 1; edit(0, 0): 2\n" + Scenes.chainToFive() + "undo(0, 0): RING; undo(0, 3): 0; "
            + "undo(0, 0): 1");
        t.says(sentence, "DEEP: the page itself, 5 and 6",
            "call(5, 0); edit(0, 6): 1; edit(0, 6): 2\n" + Scenes.chainToFive() + "undo(0, 6): DEEP; version(6): 2; "
            + "undo(0, 1): 0; undo(0, 6): 1");
        t.says(sentence, "DEEP: a page that calls it, 5 and 6",
            "call(1, 0); edit(0, 2): 1; edit(0, 2): 2; call(0, 0); edit(0, 1): 1\n" + Scenes.chain(0, 3, 6)
            + "undo(0, 2): DEEP; undo(0, 6): 0; undo(0, 2): 1");
        t.says(sentence, "LONG: the page itself, 100 and 101",
            "10 x call(0, 0); letter(1); edit(0, 1): 1; edit(0, 1): 2\n" + Scenes.letters(10, 0, 0)
            + "undo(0, 1): LONG; version(1): 2; undo(0, 0): 0; undo(0, 1): 1; undo(0, 1): 0; 10 x call(0, 0); "
            + "edit(0, 1): 1; edit(0, 1): 2\n" + Scenes.letters(10, 0, 0) + "undo(0, 1): 1; extent(1): 100");
        t.says(sentence, "LONG: a page that calls it, 100 and 101",
            "11 x letter(1); edit(0, 0): 1; edit(0, 0): 2; 9 x call(0, 0); 2 x letter(1); edit(0, 1): 1; "
            + "undo(0, 0): LONG; undo(0, 1): 0; 9 x call(0, 0); letter(1); edit(0, 1): 1; undo(0, 0): 1; "
            + "extent(1): 100");
        t.says(sentence, "REACH: a rank just below the force, and at it",
            Scenes.RANKS + "call(0, 0); edit(3, 1): 1; edit(3, 1): 2; edit(1, 0): 1; lock(3, 1, 2): 0; "
            + "undo(3, 1): REACH; version(1): 2; approve(2, 0): true; undo(2, 1): 1");
        t.says(sentence, "REACH: not what it had reached ahead of the undo",
            Scenes.RANKS + "call(0, 0); edit(3, 1): 1; call(0, 0); edit(3, 1): 2; edit(0, 0): 1; lock(3, 1, 3): 0; "
            + "undo(3, 1): 1; undo(3, 1): 0");
        t.says(sentence, "not to the version 0, which calls none",
            Scenes.RANKS + "call(0, 0); edit(0, 1): 1; edit(0, 0): 1; lock(3, 1, 3): 0; undo(3, 1): 0");
        t.says(sentence, "a draft with a WHEN open does not matter", "edit(0, 0): 1; when(1); undo(0, 0): 0; end(): 2");
        String nothing = "Nothing is dropped then.";
        t.says(nothing, "of twenty versions none",
            "call(0, 0); edit(0, 1): 1; 19 x edit(0, 1); call(1, 0); edit(0, 0): 1; 18 x undo(0, 1); version(1): 2; "
            + "undo(0, 1): RING; version(1): 2; undo(0, 0): 0; undo(0, 1): 1");
        t.says(nothing, "LOCKED, RING, and then the undo that is allowed",
            Scenes.RANKS + "letter(4); call(1, 0); edit(3, 0): 1; letter(5); edit(3, 0): 2; call(0, 0); edit(3, 1): 1; "
            + "lock(3, 0, 3): 0\n3 x undo(2, 0): LOCKED; 3 x undo(3, 0): RING; version(0): 2; row(0, NONE): L5@0\n "
            + "undo(3, 1): 0; undo(3, 0): 1; row(0, NONE): L4@0");
    }

    /** All sets of what refuses an undo: LOCKED by the user, LOCKED by the version, RING, DEEP, LONG and REACH. */
    private void orderOfUndo() {
        String[] pieces = {"", "", "call(8, NONE)\n", "call(5, NONE)\n", "4 x call(0, NONE)\n", "call(7, NONE)\n"};
        String[] refusals = {"LOCKED", "LOCKED", "RING", "DEEP", "LONG", "REACH"};
        for (int set = 0; set < 64; set++) {
            StringBuilder text = new StringBuilder();
            String answer = "1";
            String named = "";
            for (int i = 5; i >= 0; i--) {
                if ((set >> i & 1) == 1) {
                    text.append(pieces[i]);
                    answer = refusals[i];
                    named = " " + (i == 0 ? "LOCKED by the user" : i == 1 ? "LOCKED by the version" : refusals[i])
                        + named;
                }
            }
            String lines = "setRank(3, 3): 0\n" + text + "edit(" + ((set & 2) == 0 ? 3 : 0) + ", 6): 1; "
                + "edit(3, 6): 2\n" + Scenes.letters(30, 3, 0)
                + "call(11, NONE); edit(3, 1): 1\n" + Scenes.chain(3, 2, 5) + "call(6, NONE); edit(3, 8): 1; "
                + "edit(0, 7): 1; lock(3, 6, 3): 0\n"
                + "undo(" + ((set & 1) == 0 ? 3 : 0) + ", 6): " + answer + "; version(6): " + (set == 0 ? 1 : 2);
            t.says("It is refused likewise, the text that comes back taken for that of an edit",
                "what applies is" + (set == 0 ? " none" : named),
                lines);
        }
    }

    private void kept() {
        String sentence = "The draft, locks and ranks of users stay as they are.";
        t.says(sentence, "the draft, empty, of three pieces, and full",
            "3 x edit(0, 0); undo(0, 0): 2; letter(1): 1; letter(2): 2; undo(0, 0): 1; letter(3): 3; 27 x letter(4); "
            + "undo(0, 0): 0; letter(5): STATE; edit(0, 0): 1; items(0, NONE): 30; itemAt(0, NONE, 2): 3");
        t.says(sentence, "the draft with a WHEN open",
            "edit(0, 0): 1; when(1); letter(2); undo(0, 0): 0; edit(0, 0): STATE; end(): 3; edit(0, 0): 1; "
            + "row(0, 1): L2@0\n row(0, NONE)");
        t.says(sentence, "locks",
            Scenes.RANKS + "edit(3, 0): 1; lock(3, 0, 2): 0; lock(3, 1, 1): 0; undo(3, 0): 0; lock(3, 0, 2): 2; "
            + "lock(3, 1, 1): 1");
        t.says(sentence, "ranks of users",
            Scenes.RANKS + "edit(3, 0): 1; setRank(3, 2): 3; undo(3, 0): 0; setRank(3, 2): 2; setRank(2, 2): 2; "
            + "setRank(1, 1): 1; setRank(0, 0): 0");
        t.says(sentence, "also if the undo is refused",
            Scenes.RANKS + "edit(0, 0): 1; lock(1, 0, 1): 0; letter(7): 1; undo(0, 0): LOCKED; letter(8): 2; "
            + "lock(1, 0, 1): 1; setRank(0, 0): 0; edit(1, 0): 2; row(0, NONE): L7@0 L8@0");
    }
}
