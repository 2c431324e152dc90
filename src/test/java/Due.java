/** Compares answers with the ones that are due; shared by the tests, with the parts of a mode. */
final class Due {
    static final int READ = 1;
    static final int WRITE = 2;
    static final int DELETE = 4;
    static final int SHARE_READ = 8;
    static final int SHARE_WRITE = 16;
    static final int SHARE_DELETE = 32;
    static final int SHARE_ALL = SHARE_READ | SHARE_WRITE | SHARE_DELETE;
    /** Every access, every share. */
    static final int ALL = READ | WRITE | DELETE | SHARE_ALL;
    static final int MAKE = ShareServer.MAKE;
    static final int FRESH = ShareServer.FRESH;
    static final int FOLDER = ShareServer.FOLDER;
    static final int REMOVES = ShareServer.REMOVES;
    static final int NEW_FILE = ALL | MAKE;
    static final int NEW_FOLDER = ALL | MAKE | FOLDER;
    static final int OLD_FOLDER = ALL | FOLDER;
    /**
     * Numbers that are out of every range, in every object with fewer than 1025 requests or handles: the ends of the ints, where
     * sums and differences wrap around, and numbers that a byte, a char or a short would cut down to one in range.
     */
    static final int[] WILD = {Integer.MIN_VALUE, Integer.MIN_VALUE + 1, -65536, -1000, -256, -33, -32, -2, -1, 1025, 65536,
        65537, Integer.MAX_VALUE - 31, Integer.MAX_VALUE - 1, Integer.MAX_VALUE};

    private String sentence = "";
    private int wrong;

    /** Where in the document the next answers are promised, and its words [with what is left out or added]; told with wrong answers. */
    void sentence(String where, String words) {
        sentence = where + ", '" + words + "': ";
    }

    void is(String what, long got, long want) {
        if (got != want) {
            wrong++;
            System.out.println(sentence + what + " answered " + got + ", due is " + want);
        }
    }

    /** Opens and answers the outcome, for tests that don't look at the request's number. */
    static int opened(ShareServer x, int client, int directory, int name, int mode, int wish) {
        return x.outcome(x.open(client, directory, name, mode, wish));
    }

    /** Compares all seven counts. */
    void counts(String when, ShareServer x, int... want) {
        for (int what = 0; what < want.length; what++) {
            is(when + ": count(" + what + ")", x.count(what), want[what]);
        }
    }

    void cell(String when, ShareServer x, int handle, int cell, int want) {
        is(when + ": read of cell " + cell, x.read(handle, cell), 0);
        is(when + ": value of cell " + cell, x.value(), want);
    }

    void end() {
        if (wrong != 0) {
            System.out.println(wrong + " answers are not as due");
            System.exit(1);
        }
        System.out.println("all answers are as due");
    }
}
