/** Scripts and rows of numbers that many tests begin with. */
final class Scenes {
    static final int MIN = Integer.MIN_VALUE, MAX = Integer.MAX_VALUE;

    /** Numbers just outside a range, far outside, such as a shift or a cast brings inside, and the ends of int. */
    static final int[] NO_PAGES = {-1, -2, 12, 13, 31, 32, 43, 44, 64, 256, 65536, MIN, MIN + 1, MAX - 1, MAX};
    static final int[] NO_USERS = {-1, -2, 6, 7, 32, 256, 65536, MIN, MIN + 1, MAX - 1, MAX};
    static final int[] NO_LETTERS = {-1, -2, 26, 27, 32, 256, 65536, MIN, MIN + 1, MAX - 1, MAX};
    static final int[] NO_ARGUMENTS = {-2, -3, 26, 27, 32, 255, 256, 65536, MIN, MIN + 1, MAX - 1, MAX};
    static final int[] NO_ANCHORS = {-1, -2, 10, 11, 16, 256, 65536, MIN, MIN + 1, MAX - 1, MAX};
    static final int[] NO_RANKS = {-1, -2, 4, 5, 8, 256, 65536, MIN, MIN + 1, MAX - 1, MAX};

    /** A wiki of which each part is in use; its draft has 3 pieces, and a WHEN of it is open. */
    static final String RICH = """
        setRank(1, 1): 0; setRank(2, 2): 0; setRank(3, 3): 0
        letter(1); argument(); anchor(2); edit(1, 0): 1
        redirect(0); edit(2, 1): 1
        callOn(0); link(1, 2); link(0, 3); edit(0, 2): 1
        call(2, 25); when(0); callOn(0); end(); edit(2, 3): 1
        letter(9); edit(3, 9): 1
        letter(8); argument(); edit(2, 9): 2
        lock(2, 3, 1): 0; lock(3, 11, 2): 0
        redirect(1); edit(3, 11): 1
        letter(4); when(5); argument()
        """;

    /** The same with the WHEN of its draft closed: the draft has 4 pieces. */
    static final String RICH_CLOSED = RICH + "end(): 4\n";

    /** Each user has the rank that is its number. */
    static final String RANKS = "setRank(1, 1): 0; setRank(2, 2): 0; setRank(3, 3): 0\n";

    private Scenes() { }

    /** Each of these pages calls the one before it, laid by the user. */
    static String chain(int user, int first, int last) {
        StringBuilder lines = new StringBuilder();
        for (int page = first; page <= last; page++) {
            lines.append("call(" + (page - 1) + ", NONE); edit(" + user + ", " + page + "): 1\n");
        }
        return lines.toString();
    }

    /** The pages 0 to 5, the last of the depth 5. */
    static String chainToFive() {
        return chain(0, 1, 5);
    }

    /** Lays this many letters as the first version of a page. */
    static String letters(int count, int user, int page) {
        return count + " x letter(1); edit(" + user + ", " + page + "): 1\n";
    }

    /** The pages 0 to 5 again, the first of the depth 5: each calls the one behind it. */
    static String fallingFromFive() {
        return "call(5, NONE); edit(0, 4): 1; call(4, NONE); edit(0, 3): 1; call(3, NONE); edit(0, 2): 1\n"
            + "call(2, NONE); edit(0, 1): 1; call(1, NONE); edit(0, 0): 1\n";
    }

    /** The page 0 has the extent 10, and the page 1, which calls it ten times, 100. */
    static String hundred() {
        return letters(10, 0, 0) + "10 x call(0, NONE); edit(0, 1): 1\n";
    }
}
