/** The terms but for requests and changes: each sentence that names a first or last value, or a refused call. */
public final class TermsSentencesTest {
    private static final int REFUSED = ShareServer.REFUSED;
    private static final int FULL = ShareServer.FULL;
    private static final int NOWHERE = ShareServer.NOWHERE;
    private static final int LOCKED = ShareServer.LOCKED;

    public static void main(String[] args) {
        Due due = new Due();
        nodesTheRootIsAlwaysThere(due);
        nodesAtMost24(due);
        nodesPlaceAndName(due);
        nodesNoTwoAtAPlace(due);
        nodesCells(due);
        nodesNotDoomedAtFirst(due);
        handlesNumberedAsMade(due);
        handlesAtMost12(due);
        handlesAccessAndShare(due);
        handlesMayRemove(due);
        grantNumbers(due);
        locksAtMost8(due);
        locksAreOfAHandleAndARange(due);
        locksInTheirOrder(due);
        locksMeet(due);
        closingLocksAreGone(due);
        closingDoomsAFile(due);
        closingDoomsADirectoryWithoutNodes(due);
        closingRemovesAtTheLast(due);
        closingElseNotDoomed(due);
        refusedHandleNotOpen(due);
        refusedIsTestedFirst(due);
        constantsInAMode(due);
        due.end();
    }

    private static void nodesTheRootIsAlwaysThere(Due due) {
        due.sentence("Terms, NODES", "0 is the root, a directory, always there");
        ShareServer x = new ShareServer();
        due.is("a directory", x.node(0, 2), 1);
        x.crash();
        due.is("after a crash", x.node(0, 2), 1);
        x.open(0, 0, 0, Due.NEW_FILE | Due.REMOVES, 0);
        due.is("the only node in it is removed", x.close(1), 0);
        due.is("no node in it", x.node(0, 6), 0);
        due.is("it is there", x.node(0, 2), 1);
        due.is("it is not DOOMED", x.node(0, 3), 0);
        due.is("nodes can be made in it", Due.opened(x, 0, 0, 0, Due.NEW_FILE, 0), 2);
        due.is("it is no new number", x.find(0, 0), 2);
    }

    private static void nodesAtMost24(Due due) {
        due.sentence("Terms, NODES", "others are numbered 1, 2, .. as they are made, at most 24, files or directories");
        for (int folder = 0; folder <= Due.FOLDER; folder += Due.FOLDER) {
            ShareServer x = new ShareServer();
            due.is("the first, a directory", Due.opened(x, 0, 0, 0, Due.NEW_FOLDER, 0), 1);
            x.close(1);
            for (int i = 2; i <= 24; i++) {
                due.is("node " + i, Due.opened(x, 0, i % 2, i / 2, Due.NEW_FILE | folder, 0), i);
                due.is("its number", x.handle(i, 0), i);
                due.is("its kind", x.node(i, 2), folder == 0 ? 0 : 1);
                x.close(i);
            }
            due.is("given", x.count(0), 24);
            due.is("a 25th", Due.opened(x, 0, 0, 15, Due.NEW_FILE | folder, 0), FULL);
            due.is("it is not made", x.find(0, 15), NOWHERE);
            due.is("24 is there", x.node(24, 0), 0);
            due.is("25 is not", x.node(25, 0), REFUSED);
            due.is("given", x.count(0), 24);
            due.is("changes", x.count(3), 24);
        }
    }

    private static void nodesPlaceAndName(Due due) {
        due.sentence("Terms, NODES", "has a PLACE: a directory that is there, and a name 0 .. 15");
        ShareServer x = new ShareServer();
        due.is("the name 0", Due.opened(x, 0, 0, 0, Due.NEW_FOLDER, 0), 1);
        due.is("the name 15", Due.opened(x, 0, 0, 15, Due.NEW_FILE, 0), 2);
        due.is("the name -1", x.open(0, 0, -1, Due.NEW_FILE, 0), REFUSED);
        due.is("the name 16", x.open(0, 0, 16, Due.NEW_FILE, 0), REFUSED);
        due.is("the last directory that is there", Due.opened(x, 0, 1, 15, Due.NEW_FILE, 0), 3);
        due.is("the first that is not", Due.opened(x, 0, 4, 15, Due.NEW_FILE, 0), NOWHERE);
        due.is("a place's directory", x.node(3, 0), 1);
        due.is("a place's name", x.node(3, 1), 15);
        due.is("the root has none", x.node(0, 0), NOWHERE);
        due.is("the root has none", x.node(0, 1), NOWHERE);
    }

    private static void nodesNoTwoAtAPlace(Due due) {
        due.sentence("Terms, NODES", "no two nodes have the same place");
        ShareServer x = new ShareServer();
        for (int i = 1; i <= 24; i++) {
            int directory = i <= 16 ? 0 : 1;
            due.is("made", Due.opened(x, 0, directory, (i - 1) % 16, i == 1 ? Due.NEW_FOLDER : Due.NEW_FILE, 0), i);
            due.is("closed", x.close(i), 0);
        }
        for (int i = 1; i <= 24; i++) {
            due.is("each has its own", x.find(i <= 16 ? 0 : 1, (i - 1) % 16), i);
        }
        due.is("nodes in the root", x.node(0, 6), 16);
        due.is("nodes in the directory", x.node(1, 6), 8);
        ShareServer y = new ShareServer();
        due.is("made", Due.opened(y, 0, 0, 3, Due.NEW_FILE, 0), 1);
        due.is("opened, not made again", Due.opened(y, 0, 0, 3, Due.NEW_FILE, 0), 2);
        due.is("made beside", Due.opened(y, 0, 0, 4, Due.NEW_FILE, 0), 3);
        due.is("moved there", y.move(3, 0, 3), ShareServer.TAKEN);
        due.is("nodes in the root", y.node(0, 6), 2);
    }

    private static void nodesCells(Due due) {
        due.sentence("Terms, NODES", "A file has cells 0 .. 31, ints, 0 at first");
        ShareServer x = new ShareServer();
        x.open(0, 0, 0, Due.NEW_FILE, 0);
        for (int cell = 0; cell <= 31; cell++) {
            due.is("read of " + cell, x.read(1, cell), 0);
            due.is("0 at first, " + cell, x.value(), 0);
        }
        due.is("cell -1", x.read(1, -1), REFUSED);
        due.is("cell 32", x.read(1, 32), REFUSED);
        due.is("cell -1", x.write(1, -1, 5), REFUSED);
        due.is("cell 32", x.write(1, 32, 5), REFUSED);
        int[] ints = {Integer.MIN_VALUE, Integer.MIN_VALUE + 1, -65536, -9, -8, -1, 0, 1, 255, 65536, Integer.MAX_VALUE};
        for (int value : ints) {
            for (int cell = 0; cell <= 31; cell += 31) {
                due.is("write of " + value, x.write(1, cell, value), 0);
                due.cell("any int", x, 1, cell, value);
            }
        }
        due.cell("beside the first", x, 1, 1, 0);
        due.cell("beside the last", x, 1, 30, 0);
    }

    private static void nodesNotDoomedAtFirst(Due due) {
        due.sentence("Terms, NODES", "A node may be DOOMED (not at first)");
        ShareServer x = new ShareServer();
        due.is("a file", Due.opened(x, 0, 0, 0, Due.NEW_FILE | Due.REMOVES, 0), 1);
        due.is("not at first", x.node(1, 3), 0);
        due.is("a directory", Due.opened(x, 0, 0, 1, Due.NEW_FOLDER | Due.REMOVES, 0), 2);
        due.is("not at first", x.node(2, 3), 0);
        due.is("doom", x.doom(1, true), 0);
        due.is("it may be", x.node(1, 3), 1);
        due.is("the other is not", x.node(2, 3), 0);
        due.is("removed", x.close(1), 1);
        due.is("made at the same place", Due.opened(x, 0, 0, 0, Due.NEW_FILE, 0), 3);
        due.is("not at first", x.node(3, 3), 0);
    }

    private static void handlesNumberedAsMade(Due due) {
        due.sentence("Terms, HANDLES", "HANDLES are numbered 1, 2, .. as they are made; one is OPEN until it is closed");
        ShareServer x = new ShareServer();
        due.is("no 1 yet", x.handle(1, 0), REFUSED);
        due.is("the first", Due.opened(x, 0, 0, 0, Due.NEW_FILE, 0), 1);
        due.is("no handle, no number", Due.opened(x, 0, 0, 9, Due.ALL, 0), NOWHERE);
        due.is("the second", Due.opened(x, 0, 0, 0, Due.ALL, 0), 2);
        due.is("OPEN", x.handle(1, 0), 1);
        due.is("closed", x.close(1), 1);
        due.is("not OPEN", x.handle(1, 0), REFUSED);
        due.is("the third, after a close", Due.opened(x, 0, 0, 0, Due.ALL, 0), 3);
        x.sync();
        x.crash();
        due.is("not OPEN after a crash", x.handle(3, 0), REFUSED);
        due.is("the fourth, after a crash", Due.opened(x, 0, 0, 0, Due.ALL, 0), 4);
        due.is("ever made", x.count(6), 4);
    }

    private static void handlesAtMost12(Due due) {
        due.sentence("Terms, HANDLES", "at most 12 are OPEN at a time");
        ShareServer x = new ShareServer();
        for (int i = 1; i <= 12; i++) {
            due.is("handle " + i, Due.opened(x, i % 4, 0, i % 3, i % 3 == 0 ? Due.NEW_FOLDER : Due.NEW_FILE, 0), i);
        }
        due.is("a 13th on a file", Due.opened(x, 0, 0, 1, Due.ALL, 0), FULL);
        due.is("a 13th on a directory", Due.opened(x, 0, 0, 0, Due.OLD_FOLDER, 0), FULL);
        due.is("a 13th on a new node", Due.opened(x, 0, 0, 9, Due.NEW_FILE, 0), FULL);
        due.is("OPEN", x.count(1), 12);
        due.is("ever made", x.count(6), 12);
        due.is("one is closed", x.close(1), 11);
        due.is("room for one", Due.opened(x, 0, 0, 1, Due.ALL, 0), 13);
        due.is("not for two", Due.opened(x, 0, 0, 1, Due.ALL, 0), FULL);
        due.is("one is closed", x.close(13), 11);
        due.is("room for a new node", Due.opened(x, 0, 0, 9, Due.NEW_FILE, 0), 14);
        due.is("not for two", Due.opened(x, 0, 0, 10, Due.NEW_FILE, 0), FULL);
        x.sync();
        x.crash();
        for (int i = 15; i <= 26; i++) {
            due.is("after a crash, handle " + i, Due.opened(x, 0, 0, 1, Due.ALL, 0), i);
        }
        due.is("and no more", Due.opened(x, 0, 0, 1, Due.ALL, 0), FULL);
    }

    private static void handlesAccessAndShare(Due due) {
        due.sentence("Terms, HANDLES", "an access (a sum of READ 1, WRITE 2, DELETE 4), a share (a sum of the same)");
        for (int both = 1; both <= 63; both++) {
            ShareServer x = new ShareServer();
            int access = both % 8;
            due.is("mode " + both, x.open(0, 0, 0, both | Due.MAKE, 0), access == 0 ? REFUSED : 1);
            due.is("access of " + both, x.handle(1, 1), access == 0 ? REFUSED : access);
            due.is("share of " + both, x.handle(1, 2), access == 0 ? REFUSED : both / 8);
            due.is("READ of " + both, x.read(1, 0), access % 2 == 1 ? 0 : REFUSED);
            due.is("WRITE of " + both, x.write(1, 0, 1), access / 2 % 2 == 1 ? 0 : REFUSED);
            due.is("DELETE of " + both, x.doom(1, true), access / 4 == 1 ? 0 : REFUSED);
        }
        ShareServer x = new ShareServer();
        due.is("all parts", Due.opened(x, 0, 0, 0, 1023, 0), 1);
        due.is("no other part is in the access", x.handle(1, 1), 7);
        due.is("no other part is in the share", x.handle(1, 2), 7);
    }

    private static void handlesMayRemove(Due due) {
        due.sentence("Terms, HANDLES", "and may be one that removes");
        ShareServer x = new ShareServer();
        due.is("one that removes", Due.opened(x, 0, 0, 0, Due.NEW_FILE | Due.REMOVES, 0), 1);
        due.is("one that does not", Due.opened(x, 0, 0, 1, Due.NEW_FILE, 0), 2);
        due.is("closed", x.close(2), 1);
        due.is("it stays", x.find(0, 1), 2);
        due.is("closed", x.close(1), 0);
        due.is("it is removed", x.find(0, 0), NOWHERE);
    }

    private static void grantNumbers(Due due) {
        due.sentence("Terms, GRANT", "0 none, 1 shared, 2 alone, 3 alone and BREAKING");
        ShareServer x = new ShareServer();
        x.open(0, 0, 0, Due.NEW_FILE, 0);
        x.open(0, 0, 1, Due.NEW_FILE, 1);
        x.open(0, 0, 2, Due.NEW_FILE, 2);
        x.open(0, 0, 3, Due.NEW_FILE, 2);
        x.open(1, 0, 3, Due.ALL, 0);
        for (int handle = 1; handle <= 4; handle++) {
            due.is("handle " + handle, x.handle(handle, 3), handle - 1);
        }
        due.is("none does not make wait", Due.opened(x, 1, 0, 0, Due.ALL, 0), 5);
        due.is("shared does not make wait", Due.opened(x, 1, 0, 1, Due.ALL, 0), 6);
        due.is("alone makes wait", Due.opened(x, 1, 0, 2, Due.ALL, 0), ShareServer.WAITING);
        due.is("BREAKING makes wait", Due.opened(x, 1, 0, 3, Due.ALL, 0), ShareServer.WAITING);
    }

    private static void locksAtMost8(Due due) {
        due.sentence("Terms, LOCKS", "at most 8 on a file");
        ShareServer x = new ShareServer();
        x.open(0, 0, 0, Due.NEW_FILE, 0);
        x.open(0, 0, 0, Due.ALL, 0);
        x.open(0, 0, 1, Due.NEW_FILE, 0);
        for (int i = 1; i <= 8; i++) {
            due.is("lock " + i, x.lock(1 + i % 2, 0, 32, false), i);
        }
        due.is("a 9th by one handle", x.lock(1, 0, 32, false), FULL);
        due.is("a 9th by another", x.lock(2, 0, 32, false), FULL);
        due.is("its locks", x.node(1, 5), 8);
        due.is("the first on another file", x.lock(3, 0, 32, false), 1);
        due.is("one less", x.unlock(1, 0, 32), 7);
        due.is("one more", x.lock(2, 0, 1, false), 8);
        due.is("and no more", x.lock(2, 0, 1, false), FULL);
    }

    private static void locksAreOfAHandleAndARange(Due due) {
        due.sentence("Terms, LOCKS", "each is of a handle, a range of cells, and shared or alone");
        ShareServer x = new ShareServer();
        x.open(0, 0, 0, Due.NEW_FILE, 0);
        x.open(0, 0, 0, Due.ALL, 0);
        due.is("alone, the first cell", x.lock(1, 0, 1, true), 1);
        due.is("shared, the last cell", x.lock(1, 31, 1, false), 2);
        due.is("alone bars another's reads", x.read(2, 0), LOCKED);
        due.is("not its handle's", x.read(1, 0), 0);
        due.is("nor beside it", x.read(2, 1), 0);
        due.is("shared does not", x.read(2, 31), 0);
        due.is("alone bars another's writes", x.write(2, 0, 1), LOCKED);
        due.is("not its handle's", x.write(1, 0, 1), 0);
        due.is("shared bars another's writes", x.write(2, 31, 1), LOCKED);
        due.is("and its handle's", x.write(1, 31, 1), LOCKED);
        due.is("not beside it", x.write(2, 30, 1), 0);
    }

    private static void locksInTheirOrder(Due due) {
        due.sentence("Terms, LOCKS", "they are kept in the order in which they were made");
        ShareServer x = new ShareServer();
        x.open(0, 0, 0, Due.NEW_FILE, 0);
        for (int i = 0; i < 8; i++) {
            due.is("made", x.lock(1, 4 * i, 4, i % 2 == 0), i + 1);
        }
        due.is("the first goes", x.unlock(1, 0, 4), 7);
        due.is("one in the middle goes", x.unlock(1, 12, 4), 6);
        due.is("the last goes", x.unlock(1, 28, 4), 5);
        boolean[] there = {false, true, true, false, true, true, true, false};
        for (int i = 0; i < 8; i++) {
            boolean bars = there[i] && i % 2 == 1;
            due.is("cell " + 4 * i, x.write(1, 4 * i, 1), bars ? LOCKED : 0);
            due.is("the others stay as they were, " + i, x.unlock(1, 4 * i, 4) >= 0 ? 1 : 0, there[i] ? 1 : 0);
        }
        due.is("none is left", x.node(1, 5), 0);
    }

    private static void locksMeet(Due due) {
        due.sentence("Terms, LOCKS", "Two ranges MEET if they have a cell in common");
        int[][] pairs = {
            {0, 4, 4, 4, 0}, {0, 5, 4, 4, 1}, {4, 4, 0, 4, 0}, {4, 4, 0, 5, 1}, {0, 1, 0, 1, 1}, {0, 1, 1, 1, 0}, {31, 1, 30, 1, 0},
            {31, 1, 31, 1, 1}, {0, 32, 31, 1, 1}, {0, 32, 0, 1, 1}, {0, 31, 31, 1, 0}, {1, 31, 0, 1, 0}, {1, 31, 0, 2, 1},
            {8, 8, 10, 2, 1}, {10, 2, 8, 8, 1}, {8, 8, 0, 32, 1}, {8, 8, 0, 8, 0}, {8, 8, 16, 16, 0}, {8, 8, 15, 17, 1},
        };
        for (int[] p : pairs) {
            ShareServer x = new ShareServer();
            x.open(0, 0, 0, Due.NEW_FILE, 0);
            due.is("the one", x.lock(1, p[0], p[1], true), 1);
            String text = p[0] + "+" + p[1] + " and " + p[2] + "+" + p[3];
            due.is(text, x.lock(1, p[2], p[3], true), p[4] == 1 ? LOCKED : 2);
        }
    }

    private static void closingLocksAreGone(Due due) {
        due.sentence("Terms, CLOSING", "its locks are gone");
        ShareServer x = new ShareServer();
        x.open(0, 0, 0, Due.NEW_FILE, 0);
        x.open(0, 0, 0, Due.ALL, 0);
        x.open(0, 0, 1, Due.NEW_FILE, 0);
        for (int i = 0; i < 7; i++) {
            due.is("seven of the one", x.lock(1, i, 1, true), i + 1);
        }
        due.is("one of the other", x.lock(2, 7, 1, true), 8);
        due.is("one on another file", x.lock(3, 0, 1, true), 1);
        due.is("closed", x.close(1), 2);
        due.is("the other's stays", x.node(1, 5), 1);
        due.is("the other file's stays", x.node(2, 5), 1);
        due.is("closed", x.close(2), 1);
        due.is("none", x.node(1, 5), 0);
        due.is("opened again", Due.opened(x, 0, 0, 0, Due.ALL, 0), 4);
        due.is("all cells are free", x.lock(4, 0, 32, true), 1);
        ShareServer y = new ShareServer();
        for (int i = 1; i <= 4; i++) {
            due.is("opened", Due.opened(y, 0, 0, 0, Due.NEW_FILE, 0), i);
        }
        due.is("of the first", y.lock(1, 0, 1, true), 1);
        due.is("of the second", y.lock(2, 1, 1, true), 2);
        due.is("of the third", y.lock(3, 2, 1, true), 3);
        due.is("closed, one without locks", y.close(4), 3);
        due.is("three are left", y.node(1, 5), 3);
        due.is("closed, the one with the last", y.close(3), 2);
        due.is("two are left", y.node(1, 5), 2);
        due.is("the second's", y.read(1, 1), LOCKED);
        due.is("the first's", y.read(2, 0), LOCKED);
        due.is("closed, the one with the second", y.close(2), 1);
        due.is("the first's", y.unlock(1, 0, 1), 0);
    }

    private static void closingDoomsAFile(Due due) {
        due.sentence("Terms, CLOSING", "If it is one that removes, its node, if it is a file");
        ShareServer x = new ShareServer();
        x.open(0, 0, 0, Due.NEW_FILE, 0);
        x.open(0, 0, 0, Due.ALL, 0);
        x.open(0, 0, 0, Due.ALL | Due.REMOVES, 0);
        x.open(0, 0, 1, Due.NEW_FILE, 0);
        due.is("one that does not is closed", x.close(1), 3);
        due.is("not DOOMED", x.node(1, 3), 0);
        due.is("one that does is closed", x.close(3), 2);
        due.is("DOOMED", x.node(1, 3), 1);
        due.is("another node is not", x.node(2, 3), 0);
        due.is("no node is removed yet", x.count(3), 2);
    }

    private static void closingDoomsADirectoryWithoutNodes(Due due) {
        due.sentence("Terms, CLOSING", "or a directory without nodes in it, is DOOMED");
        ShareServer x = new ShareServer();
        due.is("made", Due.opened(x, 0, 0, 0, Due.NEW_FOLDER, 0), 1);
        due.is("one node in it", Due.opened(x, 0, 1, 0, Due.NEW_FILE, 0), 2);
        due.is("one that removes", Due.opened(x, 0, 0, 0, Due.OLD_FOLDER | Due.REMOVES, 0), 3);
        due.is("closed", x.close(3), 2);
        due.is("with one node in it, not DOOMED", x.node(1, 3), 0);
        due.is("the node moves away", x.move(2, 0, 1), 0);
        due.is("one that removes", Due.opened(x, 0, 0, 0, Due.OLD_FOLDER | Due.REMOVES, 0), 4);
        due.is("closed", x.close(4), 2);
        due.is("with none, DOOMED", x.node(1, 3), 1);
        due.is("and removed at the last close", x.close(1), 1);
        due.is("removed", x.find(0, 0), NOWHERE);
        ShareServer y = new ShareServer();
        due.is("made", Due.opened(y, 0, 0, 0, Due.NEW_FOLDER | Due.REMOVES, 0), 1);
        due.is("one node in it", Due.opened(y, 0, 1, 0, Due.NEW_FILE, 0), 2);
        due.is("the last close", y.close(1), 1);
        due.is("with one node in it, it stays", y.find(0, 0), 1);
        due.is("not DOOMED", y.node(1, 3), 0);
    }

    private static void closingRemovesAtTheLast(Due due) {
        due.sentence("Terms, CLOSING", "If its node has no OPEN handle any more and is DOOMED, then [..] it is removed");
        for (int folder = 0; folder <= Due.FOLDER; folder += Due.FOLDER) {
            ShareServer x = new ShareServer();
            x.open(0, 0, 0, Due.NEW_FILE | folder, 0);
            x.open(0, 0, 0, Due.ALL | folder, 0);
            x.open(0, 0, 1, Due.NEW_FILE | folder, 0);
            due.is("doom", x.doom(1, true), 0);
            due.is("closed", x.close(1), 2);
            due.is("one OPEN handle: there", x.find(0, 0), 1);
            due.is("DOOMED", x.node(1, 3), 1);
            due.is("no handle of the other, not DOOMED", x.close(3), 1);
            due.is("there", x.find(0, 1), 2);
            due.is("closed", x.close(2), 0);
            due.is("no OPEN handle: not there", x.find(0, 0), NOWHERE);
            due.is("not there", x.node(1, 2), REFUSED);
            due.is("a change", x.count(3), 3);
            due.is("its number stays given", x.count(0), 2);
        }
    }

    /** That a DOOMED directory has nodes in it can't come about: each way to it is barred. */
    private static void closingElseNotDoomed(Due due) {
        due.sentence("Terms, CLOSING", "else it is not DOOMED any more");
        ShareServer x = new ShareServer();
        due.is("a directory", Due.opened(x, 0, 0, 0, Due.NEW_FOLDER, 0), 1);
        due.is("a file in it", Due.opened(x, 0, 1, 0, Due.NEW_FILE, 2), 2);
        due.is("waits", Due.opened(x, 1, 1, 0, Due.NEW_FILE, 0), ShareServer.WAITING);
        due.is("with a node in it", x.doom(1, true), REFUSED);
        due.is("the file moves away", x.move(2, 0, 1), 0);
        due.is("without nodes", x.doom(1, true), 0);
        due.is("by an open", Due.opened(x, 0, 1, 1, Due.NEW_FILE, 0), ShareServer.DOOM);
        due.is("by a move", x.move(2, 1, 0), ShareServer.DOOM);
        due.is("given up", x.giveUp(2), 1);
        due.is("by an open that waited", x.outcome(3), ShareServer.DOOM);
        due.is("no node in it", x.node(1, 6), 0);
        x.sync();
        due.is("a second file", Due.opened(x, 0, 0, 2, Due.NEW_FILE, 0), 3);
        due.is("not DOOMED", x.doom(1, false), 0);
        due.is("moves in", x.move(3, 1, 2), 0);
        x.sync();
        due.is("moves out", x.move(3, 0, 2), 0);
        due.is("DOOMED", x.doom(1, true), 0);
        x.crash();
        due.is("by a crash", x.node(1, 6), 1);
        due.is("after which it is not DOOMED", x.node(1, 3), 0);
    }

    private static void refusedHandleNotOpen(Due due) {
        due.sentence("Terms", "A call with a handle that is not OPEN [..] is REFUSED");
        ShareServer x = new ShareServer();
        x.open(0, 0, 0, Due.NEW_FILE, 2);
        x.open(0, 0, 1, Due.NEW_FILE, 2);
        x.sync();
        x.crash();
        x.open(0, 0, 0, Due.ALL, 2);
        x.open(0, 0, 1, Due.ALL, 2);
        x.close(4);
        int[] notOpen = {0, 1, 2, 4, 5};
        for (int handle : notOpen) {
            everyCallIsRefused(due, x, handle);
        }
        for (int handle : Due.WILD) {
            everyCallIsRefused(due, x, handle);
        }
        due.counts("nothing has changed", x, 2, 1, 0, 2, 2, 4, 4);
        due.is("the one that is OPEN", x.giveUp(3), 1);
        due.is("the one that is OPEN", x.close(3), 0);
    }

    private static void everyCallIsRefused(Due due, ShareServer x, int handle) {
        due.is("giveUp " + handle, x.giveUp(handle), REFUSED);
        due.is("close " + handle, x.close(handle), REFUSED);
        due.is("doom " + handle, x.doom(handle, true), REFUSED);
        due.is("doom off " + handle, x.doom(handle, false), REFUSED);
        due.is("move " + handle, x.move(handle, 0, 5), REFUSED);
        due.is("move " + handle + " to nowhere", x.move(handle, 9, 5), REFUSED);
        due.is("move " + handle + " to a taken place", x.move(handle, 0, 0), REFUSED);
        due.is("read " + handle, x.read(handle, 0), REFUSED);
        due.is("write " + handle, x.write(handle, 0, 1), REFUSED);
        due.is("lock " + handle, x.lock(handle, 0, 1, false), REFUSED);
        due.is("unlock " + handle, x.unlock(handle, 0, 1), REFUSED);
        due.is("handle " + handle, x.handle(handle, 0), REFUSED);
    }

    private static void refusedIsTestedFirst(Due due) {
        due.sentence("Terms", "or with numbers out of range, is REFUSED; this is tested first");
        ShareServer x = new ShareServer();
        x.open(0, 0, 0, Due.NEW_FOLDER, 0);
        x.open(0, 0, 1, Due.NEW_FILE, 0);
        x.open(0, 0, 1, Due.ALL, 0);
        x.doom(1, true);
        due.is("open, before NOWHERE", x.open(0, 9, 16, Due.ALL, 0), REFUSED);
        due.is("open, before DOOM", x.open(0, 1, 16, Due.NEW_FILE, 0), REFUSED);
        due.is("open, before TAKEN", x.open(4, 0, 1, Due.NEW_FILE | Due.FRESH, 0), REFUSED);
        due.is("open, before KIND", x.open(0, 0, 1, Due.OLD_FOLDER, 3), REFUSED);
        due.is("no request", x.count(5), 3);
        due.is("move, before NOWHERE", x.move(2, 9, 16), REFUSED);
        due.is("move, before NOWHERE of a file", x.move(2, 2, -1), REFUSED);
        due.is("move, before DOOM", x.move(2, 1, 16), REFUSED);
        due.is("move, before TAKEN", x.move(2, 25, 1), REFUSED);
        for (int i = 0; i < 8; i++) {
            due.is("lock", x.lock(3, i, 1, true), i + 1);
        }
        due.is("read, before LOCKED", x.read(2, 32), REFUSED);
        due.is("write, before LOCKED", x.write(2, -1, 1), REFUSED);
        due.is("lock, before LOCKED", x.lock(2, 0, 33, true), REFUSED);
        due.is("lock, before LOCKED", x.lock(2, -1, 2, true), REFUSED);
        due.is("lock, before FULL", x.lock(2, 31, 2, true), REFUSED);
        due.is("lock in range: LOCKED", x.lock(2, 0, 32, true), LOCKED);
        due.is("lock in range: FULL", x.lock(2, 31, 1, true), FULL);
    }

    private static void constantsInAMode(Due due) {
        due.sentence("Terms", "Parts of a mode, beside 1, 2, 4 for the access and 8, 16, 32 for the share");
        ShareServer x = new ShareServer();
        due.is("without 64 no node is made", Due.opened(x, 0, 0, 0, 63, 0), -3);
        due.is("128 alone makes none", Due.opened(x, 0, 0, 0, 63 + 128, 0), -3);
        due.is("256 alone makes none", Due.opened(x, 0, 0, 0, 63 + 256, 0), -3);
        due.is("512 alone makes none", Due.opened(x, 0, 0, 0, 63 + 512, 0), -3);
        due.is("64 makes one", Due.opened(x, 0, 0, 0, 63 + 64, 0), 1);
        due.is("64 opens it", Due.opened(x, 0, 0, 0, 63 + 64, 0), 2);
        due.is("64 and 128 do not", Due.opened(x, 0, 0, 0, 63 + 64 + 128, 0), -4);
        due.is("64 and 256 make a directory", Due.opened(x, 0, 0, 1, 63 + 64 + 256, 0), 3);
        due.is("a directory", x.node(2, 2), 1);
        due.is("512 removes", Due.opened(x, 0, 0, 1, 63 + 256 + 512, 0), 4);
        due.is("closed", x.close(3), 3);
        due.is("closed", x.close(4), 2);
        due.is("removed", x.find(0, 1), -3);
    }
}
