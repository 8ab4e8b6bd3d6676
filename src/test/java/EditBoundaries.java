/** The boundary cases of edits, undos, approvals, locks and ranks: promises 11 to 15, 'Edits' and 'Locks'. */
final class EditBoundaries {
    private static final String IF_NO_SUCH = "Throws IndexOutOfBoundsException if there is no such user or page";
    private static final String IF_NO_RANK = "Throws IllegalArgumentException if rank is out of range";
    private static final String USER = "user: 0 to 5", PAGE = "page: 0 to 11", RANK = "rank: 0 to 3";

    private final Boundaries t;

    EditBoundaries(Boundaries tests) {
        t = tests;
    }

    void all() {
        t.of("Promise 11: edit");
        edit();
        editWrongly();
        editFull();
        t.of("Promise 12: undo");
        undo();
        undoWrongly();
        t.of("Promise 13: approve");
        approve();
        t.of("Promise 14: lock");
        lock();
        t.of("Promise 15: setRank");
        setRank();
    }

    /** IndexOutOfBoundsException for each user and page that there is not; the pattern has '$' for the user. */
    private void noSuchUserOrPage(String pattern, String what) {
        String noUser = pattern.replace("#", "9").replace("$", "#") + ": INDEX";
        String noPage = pattern.replace("$", "3") + ": INDEX";
        String neither = pattern.replace("$", "#") + ": INDEX";
        t.says(IF_NO_SUCH, "-1, 6 and others as user, and the ends of int" + what,
            Scenes.RICH_CLOSED + Script.each(noUser, Scenes.NO_USERS));
        t.says(IF_NO_SUCH, "-1, 12 and others as page, and the ends of int" + what,
            Scenes.RICH_CLOSED + Script.each(noPage, Scenes.NO_PAGES));
        t.says(IF_NO_SUCH, "neither the user nor the page is there" + what,
            Scenes.RICH_CLOSED + Script.each(neither, -1, 12, Scenes.MIN, Scenes.MAX));
    }

    // ---- edit

    private void edit() {
        t.says("Edits a page.", "that page alone",
            "letter(7); edit(0, 3): 1; row(3, NONE): L7@3\n"
            + Script.each("version(#): 0; row(#, NONE)", 0, 1, 2, 4, 5, 6, 7, 8, 9, 10, 11));
        t.says(USER, "0 and 5, and each between", Script.each("edit(#, 0)", Script.from(0, 5)) + "version(0): 6");
        t.says(PAGE, "0 and 11, and each between",
            Script.each("letter(#); edit(0, #): 1", Script.from(0, 11))
            + Script.each("version(#): 1; row(#, NONE): L#@#", Script.from(0, 11)));
        String number = "Returns the number of the new version of the page; or a refusal.";
        StringBuilder upTo20 = new StringBuilder();
        for (int version = 1; version <= 20; version++) {
            upTo20.append("edit(0, 0): ").append(version).append('\n');
        }
        t.says(number, "1 for the first one, 20 for the last one", upTo20.toString());
        t.says(number, "of an empty draft too", "edit(0, 0): 1; edit(0, 0): 2; rankOf(0): 0");
        t.says(number, "each page counts its own", "edit(0, 0): 1; edit(0, 0): 2; edit(0, 1): 1; edit(0, 0): 3");
        t.says(number, "the same again behind an undo", "edit(0, 0): 1; edit(0, 0): 2; undo(0, 0): 1; edit(0, 0): 2");
        t.says(number, "a refusal counts as no version",
            Scenes.RANKS + "lock(1, 0, 1): 0; edit(0, 0): LOCKED; edit(1, 0): 1; call(0, 1); edit(1, 0): RING; "
            + "edit(1, 0): 2");
    }

    private void editWrongly() {
        noSuchUserOrPage("edit($, #)", "");
        t.says(IF_NO_SUCH, "while a WHEN is open",
            Scenes.RICH + "edit(6, 0): INDEX; edit(-1, 0): INDEX; edit(0, 12): INDEX; edit(0, -1): INDEX; "
            + "edit(0, 0): STATE");
        t.says(IF_NO_SUCH, "for a page of 20 versions",
            "20 x edit(0, 0); letter(1); edit(6, 0): INDEX; edit(-1, 0): INDEX; edit(0, 0): STATE");
        t.says(IF_NO_SUCH, "the draft stays",
            "letter(1); edit(0, 12): INDEX; edit(6, 0): INDEX; letter(2): 2; edit(0, 0): 1; row(0, NONE): L1@0 L2@0");
        String open = "Throws IllegalStateException if a WHEN of the draft is open";
        t.says(open, "a WHEN alone", "when(1); edit(0, 0): STATE; version(0): 0; end(): 2; edit(0, 0): 1");
        t.says(open, "one of two", "when(1); when(2); end(); edit(0, 0): STATE; end(): 4; edit(0, 0): 1");
        t.says(open, "the last of three",
            "when(1); end(); when(2); end(); when(3); edit(0, 0): STATE; end(): 6; edit(0, 0): 1");
        t.says(open, "one of fifteen", "15 x when(1); 14 x end(); edit(0, 0): STATE; end(): 30; edit(0, 0): 1");
        t.says(open, "thirty WHENs", "30 x when(1); edit(0, 0): STATE; edit(0, 11): STATE");
        t.says(open, "ahead of LOCKED",
            Scenes.RANKS + "lock(1, 0, 1): 0; when(1); edit(0, 0): STATE; end(); edit(0, 0): LOCKED");
        t.says(open, "ahead of RING", "call(0, 1); when(1); edit(0, 0): STATE; end(); edit(0, 0): RING");
        t.says(open, "none, once its END is there", "when(1); end(); edit(0, 0): 1; edit(0, 0): 2");
    }

    private void editFull() {
        String full = "or the page has 20 versions behind the version 0";
        String twenty = "20 x edit(0, 0)\n";
        t.says(full, "the 20th is laid, the 21st is not",
            "19 x edit(0, 0); edit(0, 0): 20; edit(0, 0): STATE; version(0): 20");
        t.says(full, "the draft stays, for another page",
            twenty + "letter(7); edit(0, 0): STATE; letter(8): 2; edit(0, 1): 1; row(1, NONE): L7@1 L8@1");
        t.says(full, "another page with 19 takes one",
            twenty + "19 x edit(0, 11); edit(0, 11): 20; edit(0, 11): STATE");
        t.says(full, "behind an undo there is room for one",
            twenty + "edit(0, 0): STATE; undo(0, 0): 19; edit(0, 0): 20; edit(0, 0): STATE");
        t.says(full, "ahead of LOCKED",
            twenty + "setRank(1, 1): 0; lock(1, 0, 1): 0; edit(0, 0): STATE; edit(1, 0): STATE");
        t.says(full, "ahead of RING", twenty + "call(0, NONE); edit(0, 0): STATE; letter(1): 2");
        t.says(full, "while a WHEN is open too", twenty + "when(1); edit(0, 0): STATE; end(): 2; edit(0, 0): STATE");
    }

    // ---- undo

    private void undo() {
        t.says("Undoes the latest edit of a page.", "of that page alone",
            "letter(1); edit(0, 0): 1; letter(2); edit(0, 0): 2; letter(3); edit(0, 1): 1; undo(0, 0): 1\n"
            + "row(0, NONE): L1@0\n row(1, NONE): L3@1\n version(1): 1");
        t.says(USER, "0 and 5, and each between",
            "6 x edit(0, 0)\n" + Script.each("undo(#, 0)", Script.from(0, 5)) + "version(0): 0");
        t.says(PAGE, "0 and 11, and each between",
            Script.each("letter(#); edit(0, #): 1; undo(0, #): 0; row(#, NONE)", Script.from(0, 11)));
        String number = "Returns the number of its version of now then; or a refusal.";
        StringBuilder downTo0 = new StringBuilder("20 x edit(0, 0)\n");
        for (int version = 19; version >= 0; version--) {
            downTo0.append("undo(0, 0): ").append(version).append('\n');
        }
        t.says(number, "19 behind the last one, 0 behind the first one", downTo0 + "undo(0, 0): STATE");
        t.says(number, "LOCKED, and the version stays",
            Scenes.RANKS + "edit(1, 0): 1; lock(1, 0, 1): 0; undo(0, 0): LOCKED; version(0): 1; undo(1, 0): 0");
    }

    private void undoWrongly() {
        noSuchUserOrPage("undo($, #)", "");
        t.says(IF_NO_SUCH, "for a page at the version 0", "undo(6, 0): INDEX; undo(-1, 0): INDEX; undo(0, 0): STATE");
        String atTheFirst = "Throws IllegalStateException if its version of now is the version 0";
        t.says(atTheFirst, "a new page", "undo(0, 0): STATE; undo(5, 11): STATE; version(0): 0");
        t.says(atTheFirst, "a page of which all is undone",
            "edit(0, 0): 1; undo(0, 0): 0; undo(0, 0): STATE; edit(0, 0): 1");
        t.says(atTheFirst, "while another page has versions", "edit(0, 1): 1; undo(0, 0): STATE; undo(0, 1): 0");
        t.says(atTheFirst, "not at the version 1", "edit(0, 0): 1; undo(0, 0): 0");
        t.says(atTheFirst, "ahead of LOCKED", Scenes.RANKS + "lock(3, 0, 3): 0; undo(0, 0): STATE; undo(3, 0): STATE");
    }

    // ---- approve

    private void approve() {
        t.says("Approves the version of now of a page.", "that one alone",
            Scenes.RANKS + "edit(0, 0): 1; edit(0, 0): 2; edit(0, 1): 1; approve(2, 0): true; rankOf(0): 2; "
            + "rankOf(1): 0; version(0): 2\nundo(0, 0): 1; rankOf(0): 0");
        t.says(USER, "0 and 5, and each between",
            Script.each( "edit(0, #): 1; setRank(#, 1): 0; approve(#, #): true; setRank(#, 0): 1", Script.from(0, 5)));
        t.says(PAGE, "0 and 11, and each between",
            Scenes.RANKS + Script.each("edit(0, #): 1; approve(1, #): true; rankOf(#): 1", Script.from(0, 11)));
        String changes = "Returns true if that changes its rank";
        t.says(changes, "false for the rank that it has, and for one below",
            Scenes.RANKS + "edit(2, 0): 1; approve(0, 0): false; approve(1, 0): false; approve(2, 0): false; "
            + "rankOf(0): 2; approve(3, 0): true; rankOf(0): 3");
        t.says(changes, "false the second time",
            Scenes.RANKS + "edit(0, 0): 1; approve(1, 0): true; approve(1, 0): false; rankOf(0): 1");
        t.says(changes, "false for the version 0, by the greatest rank too",
            Scenes.RANKS + Script.each("approve(#, 0): false; approve(#, 11): false", Script.from(0, 3)) + "rankOf(0): "
            + "3");
        approveByAllRanks();
        noSuchUserOrPage("approve($, #)", "");
    }

    private void approveByAllRanks() {
        for (int force = 0; force <= 3; force++) {
            StringBuilder own = new StringBuilder(Scenes.RANKS);
            StringBuilder calling = new StringBuilder(Scenes.RANKS);
            for (int had = 0; had <= 3; had++) {
                own.append("edit(" + had + ", " + had + "): 1; lock(3, " + had + ", " + force + "): 0\n");
                calling.append("edit(" + had + ", " + had + "): 1; call(" + had + ", NONE); edit(0, " + (had + 4)
                    + "): 1; lock(3, " + (had + 4) + ", " + force + "): 0\n");
                for (int rank = 0; rank <= had; rank++) {
                    own.append("approve(" + rank + ", " + had + "): false\n");
                    calling.append("approve(" + rank + ", " + had + "): false\n");
                }
                int now = had;
                for (int rank = had + 1; rank <= 3; rank++) {
                    boolean changes = rank >= force && rank > now;
                    String row = "approve(" + rank + ", " + had + "): " + changes + "; rankOf(" + had + "): "
                        + (changes ? rank : now) + "\n";
                    own.append(row);
                    calling.append(row);
                    now = changes ? rank : now;
                }
            }
            String sentence = "false also if the rank of the user is below the force of the page.";
            t.says(sentence, "each rank and each rank of the version, the page's own lock " + force, own.toString());
            t.says(sentence, "each rank and each rank of the version, the lock of a calling page " + force,
                calling.toString());
        }
    }

    // ---- lock

    private void lock() {
        t.says("Sets the lock of a page.", "of that page alone",
            Scenes.RANKS + "lock(3, 4, 2): 0; force(4): 2\n"
            + Script.each("force(#): 0; lock(0, #, 0): 0", 0, 1, 2, 3, 5, 6, 7, 8, 9, 10, 11));
        t.says(USER, "0 and 5, and each between", Script.each("lock(#, #, 0): 0", Script.from(0, 5)));
        t.says(PAGE, "0 and 11, and each between",
            Scenes.RANKS + Script.each("lock(1, #, 1): 0; lock(1, #, 1): 1", Script.from(0, 11)));
        t.says(RANK, "0 and 3, and each between",
            Scenes.RANKS + "lock(3, 0, 0): 0; lock(3, 0, 1): 0; lock(3, 0, 2): 1; lock(3, 0, 3): 2; lock(3, 0, 0): 3; "
            + "force(0): 0");
        String sentence = "Returns the lock before; "
            + "LOCKED if the rank of the user is below the lock of now, or below the new one.";
        for (int now = 0; now <= 3; now++) {
            t.says(sentence, "each rank and each new lock, if that of now is " + now, lockByAllRanks(now));
        }
        t.says(sentence, "the force of the page does not matter",
            Scenes.RANKS + "call(0, NONE); edit(0, 1): 1; lock(3, 1, 3): 0; force(0): 3; lock(1, 0, 1): 0; "
            + "lock(1, 0, 0): 1; lock(0, 0, 0): 0; lock(0, 0, 1): LOCKED");
        t.says(sentence, "the versions and the texts do not matter",
            Scenes.RANKS + "edit(0, 0): 1; lock(3, 0, 3): 0; rankOf(0): 0; version(0): 1");
        noSuchUserOrPage("lock($, #, 0)", "");
        noSuchUserOrPage("lock($, #, 4)", ", while the rank is out of range too");
        noSuchUserOrPage("lock($, #, -1)", ", while the rank is out of range too");
        t.says(IF_NO_RANK, "-1, 4, others outside, and the ends of int",
            Scenes.RICH_CLOSED + Script.each("lock(3, 3, #): RANGE", Scenes.NO_RANKS) + "lock(3, 3, 3): 1");
        t.says(IF_NO_RANK, "ahead of LOCKED",
            Scenes.RICH_CLOSED + Script.each("lock(0, 3, #): RANGE", Scenes.NO_RANKS) + "lock(0, 3, 3): LOCKED");
    }

    private static String lockByAllRanks(int now) {
        StringBuilder lines = new StringBuilder(Scenes.RANKS + "lock(3, 0, " + now + "): 0\n");
        for (int rank = 0; rank <= 3; rank++) {
            for (int next = 0; next <= 3; next++) {
                boolean refused = rank < now || rank < next;
                lines.append("lock(" + rank + ", 0, " + next + "): " + (refused ? "LOCKED" : now) + "\n");
                lines.append("force(0): " + (refused ? now : next) + "; lock(3, 0, " + now + ")\n");
            }
        }
        return lines.toString();
    }

    // ---- setRank

    private void setRank() {
        t.says("Gives a user a rank.", "that user alone",
            "setRank(2, 3): 0; setRank(2, 3): 3\n" + Script.each("setRank(#, 0): 0", 0, 1, 3, 4, 5));
        t.says(USER, "0 and 5, and each between", Script.each("setRank(#, 2): 0; setRank(#, 1): 2", Script.from(0, 5)));
        t.says(RANK, "0 and 3, and each between",
            "setRank(5, 0): 0; setRank(5, 1): 0; setRank(5, 2): 1; setRank(5, 3): 2; setRank(5, 0): 3; "
            + "setRank(5, 0): 0");
        t.says("Returns the rank before.", "the same rank again too",
            "setRank(0, 3): 0; setRank(0, 3): 3; setRank(0, 3): 3; setRank(0, 0): 3");
        String noUser = "Throws IndexOutOfBoundsException if there is no such user";
        t.says(noUser, "-1, 6, others outside, and the ends of int",
            Scenes.RICH + Script.each("setRank(#, 1): INDEX", Scenes.NO_USERS));
        t.says(noUser, "while the rank is out of range too",
            Scenes.RICH + Script.each("setRank(#, 4): INDEX; setRank(#, -1): INDEX", Scenes.NO_USERS));
        t.says(IF_NO_RANK, "-1, 4, others outside, and the ends of int",
            Scenes.RICH + Script.each("setRank(3, #): RANGE", Scenes.NO_RANKS) + "setRank(3, 0): 3");
    }
}
