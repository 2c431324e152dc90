/** Promises 8 to 13: each sentence that names an edge, at the last value that is allowed and at the first that is not. */
public final class Promises08To13SentencesTest {
    private static final int REFUSED = ShareServer.REFUSED;
    private static final int FULL = ShareServer.FULL;
    private static final int NOWHERE = ShareServer.NOWHERE;
    private static final int TAKEN = ShareServer.TAKEN;
    private static final int DOOM = ShareServer.DOOM;
    private static final int LOCKED = ShareServer.LOCKED;

    public static void main(String[] args) {
        Due due = new Due();
        promise8Name(due);
        promise8DirectoryOutOfRange(due);
        promise8WithoutDelete(due);
        promise8TheRoot(due);
        promise8NotThereOrAFile(due);
        promise8Doomed(due);
        promise8InsideOfItself(due);
        promise8Taken(due);
        promise9Cell(due);
        promise9NeedsRead(due);
        promise9Directory(due);
        promise9Locked(due);
        promise10BeforeTheFirst(due);
        promise10TheLastThatAnswered0(due);
        promise11Cell(due);
        promise11NeedsWrite(due);
        promise11Directory(due);
        promise11Locked(due);
        promise11SharedGrants(due);
        promise11TheSameValue(due);
        promise12N(due);
        promise12First(due);
        promise12NotBeyond31(due);
        promise12SumsThatWrapAround(due);
        promise12Directory(due);
        promise12Locked(due);
        promise12Full(due);
        promise13JustTheseCells(due);
        promise13TheOldest(due);
        promise13None(due);
        promise13SumsThatWrapAround(due);
        due.end();
    }

    /** A file at the place 0, 0 with two handles, a directory at 0, 1 with a third. */
    private static ShareServer fileAndFolder() {
        ShareServer x = new ShareServer();
        x.open(0, 0, 0, Due.NEW_FILE, 0);
        x.open(1, 0, 0, Due.ALL, 0);
        x.open(2, 0, 1, Due.NEW_FOLDER, 0);
        return x;
    }

    private static void promise8Name(Due due) {
        due.sentence("Promise 8", "a name 0 .. 15");
        ShareServer x = fileAndFolder();
        due.is("name 15", x.move(1, 2, 15), 0);
        due.is("name 0", x.move(1, 2, 0), 0);
        due.is("name -1", x.move(1, 2, -1), REFUSED);
        due.is("name 16", x.move(1, 2, 16), REFUSED);
        for (int wild : Due.WILD) {
            due.is("name " + wild, x.move(1, 2, wild), REFUSED);
        }
        due.is("its place", x.find(2, 0), 1);
        due.is("changes", x.count(3), 4);
    }

    private static void promise8DirectoryOutOfRange(Due due) {
        due.sentence("Promise 8", "a directory's number [as open has it, 0 .. 24]");
        ShareServer x = fileAndFolder();
        due.is("directory 0", x.move(1, 0, 15), 0);
        due.is("directory 24, not there", x.move(1, 24, 1), NOWHERE);
        due.is("directory 25", x.move(1, 25, 1), REFUSED);
        due.is("directory -1", x.move(1, -1, 1), REFUSED);
        for (int wild : Due.WILD) {
            due.is("directory " + wild, x.move(1, wild, 1), REFUSED);
        }
        due.is("its place", x.find(0, 15), 1);
        ShareServer y = new ShareServer();
        y.open(0, 0, 0, Due.NEW_FILE, 0);
        for (int i = 2; i <= 24; i++) {
            due.is("directory " + i, Due.opened(y, 0, i == 2 ? 0 : i - 1, 15, Due.NEW_FOLDER, 0), i);
            due.is("closed", y.close(i), 1);
        }
        due.is("directory 24, there", y.move(1, 24, 0), 0);
        due.is("its place", y.find(24, 0), 1);
    }

    private static void promise8WithoutDelete(Due due) {
        due.sentence("Promise 8", "the handle has not the access DELETE [..] REFUSED");
        for (int access = 1; access <= 7; access++) {
            ShareServer x = new ShareServer();
            x.open(0, 0, 0, access | Due.SHARE_ALL | Due.MAKE, 0);
            x.open(0, 0, 1, Due.NEW_FOLDER, 0);
            boolean may = access >= 4;
            due.is("before NOWHERE, access " + access, x.move(1, 9, 0), may ? NOWHERE : REFUSED);
            due.is("before NOWHERE of a file, access " + access, x.move(1, 1, 0), may ? NOWHERE : REFUSED);
            due.is("before TAKEN, access " + access, x.move(1, 0, 1), may ? TAKEN : REFUSED);
            x.doom(2, true);
            due.is("before DOOM, access " + access, x.move(1, 2, 0), may ? DOOM : REFUSED);
            due.is("access " + access, x.move(1, 0, 2), may ? 0 : REFUSED);
            due.is("its name", x.node(1, 1), may ? 2 : 0);
        }
    }

    /** The root has no place, so that no handle is ever of it. */
    private static void promise8TheRoot(Due due) {
        due.sentence("Promise 8", "or its node is the root: REFUSED");
        ShareServer x = new ShareServer();
        x.open(0, 0, 0, Due.NEW_FOLDER, 0);
        for (int place = 1; place < 25 * 16; place++) {
            x.open(0, place / 16, place % 16, Due.OLD_FOLDER, 0);
        }
        due.is("no place is the root's", x.count(6), 1);
        due.is("handles of the root", x.node(0, 4), 0);
        for (int handle = 0; handle <= 2; handle++) {
            due.is("handle " + handle, x.handle(handle, 0), handle == 1 ? 1 : REFUSED);
        }
        due.is("nor can it be made with the place that node tells", x.open(0, NOWHERE, NOWHERE, Due.OLD_FOLDER, 0), REFUSED);
        due.is("the root has no place", x.node(0, 0), NOWHERE);
    }

    private static void promise8NotThereOrAFile(Due due) {
        due.sentence("Promise 8", "The directory is not there or a file: NOWHERE");
        ShareServer x = fileAndFolder();
        due.is("not there yet", x.move(1, 3, 0), NOWHERE);
        due.is("a file", x.move(3, 1, 0), NOWHERE);
        due.is("the file itself", x.move(1, 1, 0), NOWHERE);
        due.is("a directory", Due.opened(x, 0, 0, 2, Due.NEW_FOLDER | Due.REMOVES, 0), 4);
        due.is("there", x.move(1, 3, 0), 0);
        due.is("out of it", x.move(1, 0, 0), 0);
        due.is("removed", x.close(4), 3);
        due.is("not there any more", x.move(1, 3, 0), NOWHERE);
        due.is("doom of the file", x.doom(2, true), 0);
        due.is("a file, before DOOM", x.move(3, 1, 0), NOWHERE);
    }

    private static void promise8Doomed(Due due) {
        due.sentence("Promise 8", "It is DOOMED: DOOM");
        ShareServer x = fileAndFolder();
        due.is("doom", x.doom(3, true), 0);
        due.is("into it", x.move(1, 2, 0), DOOM);
        due.is("into itself, before REFUSED", x.move(3, 2, 0), DOOM);
        due.is("no doom", x.doom(3, false), 0);
        due.is("into itself", x.move(3, 2, 0), REFUSED);
        due.is("into it", x.move(1, 2, 0), 0);
        due.is("a DOOMED node may move", x.doom(1, true), 0);
        due.is("moved", x.move(1, 0, 9), 0);
        due.is("DOOMED", x.node(1, 3), 1);
    }

    private static void promise8InsideOfItself(Due due) {
        due.sentence("Promise 8", "It is the node, or lies inside of it at any depth: REFUSED");
        ShareServer x = new ShareServer();
        for (int i = 1; i <= 24; i++) {
            due.is("deeper", Due.opened(x, 0, i - 1, 0, Due.NEW_FOLDER, 0), i);
            if (i > 1) {
                due.is("closed", x.close(i), 1);
            }
        }
        for (int inner = 1; inner <= 24; inner++) {
            due.is("into " + inner + ", before TAKEN", x.move(1, inner, 0), REFUSED);
            due.is("into " + inner, x.move(1, inner, 1), REFUSED);
        }
        due.is("the one in the middle", Due.opened(x, 0, 11, 0, Due.OLD_FOLDER, 0), 25);
        due.is("into itself", x.move(25, 12, 1), REFUSED);
        due.is("into what it holds", x.move(25, 13, 1), REFUSED);
        due.is("into the deepest", x.move(25, 24, 1), REFUSED);
        due.is("into what holds it", x.move(25, 11, 1), 0);
        due.is("into what holds that", x.move(25, 10, 1), 0);
        due.is("into the root", x.move(25, 0, 1), 0);
        due.is("now the other goes into its deepest", x.move(1, 24, 1), 0);
        due.is("and it can't go into that", x.move(25, 11, 1), REFUSED);
    }

    private static void promise8Taken(Due due) {
        due.sentence("Promise 8", "A node has the place (this one too): TAKEN. Else 0");
        ShareServer x = fileAndFolder();
        due.is("another's place", x.move(1, 0, 1), TAKEN);
        due.is("its own place", x.move(1, 0, 0), TAKEN);
        due.is("a directory's own place", x.move(3, 0, 1), TAKEN);
        due.is("no change", x.count(3), 2);
        due.is("the same name elsewhere", x.move(1, 2, 0), 0);
        due.is("the place that it left", x.move(3, 0, 0), 0);
        due.is("its own place there", x.move(1, 2, 0), TAKEN);
        due.is("changes", x.count(3), 4);
    }

    private static void promise9Cell(Due due) {
        due.sentence("Promise 9", "The cell (0 .. 31) of the handle's file");
        ShareServer x = fileAndFolder();
        x.write(1, 0, 10);
        x.write(1, 31, 41);
        due.cell("the first", x, 1, 0, 10);
        due.cell("the last", x, 2, 31, 41);
        due.is("cell -1", x.read(1, -1), REFUSED);
        due.is("cell 32", x.read(1, 32), REFUSED);
        for (int wild : Due.WILD) {
            due.is("cell " + wild, x.read(1, wild), REFUSED);
        }
        due.is("value", x.value(), 41);
    }

    private static void promise9NeedsRead(Due due) {
        due.sentence("Promise 9", "the handle has READ, else REFUSED");
        for (int access = 1; access <= 7; access++) {
            ShareServer x = new ShareServer();
            x.open(0, 0, 0, access | Due.SHARE_ALL | Due.MAKE, 0);
            x.open(0, 0, 0, Due.ALL, 0);
            due.is("access " + access, x.read(1, 5), access % 2 == 1 ? 0 : REFUSED);
            x.lock(2, 5, 1, true);
            due.is("before LOCKED, access " + access, x.read(1, 5), access % 2 == 1 ? LOCKED : REFUSED);
        }
    }

    private static void promise9Directory(Due due) {
        due.sentence("Promise 9", "a directory: REFUSED");
        ShareServer x = fileAndFolder();
        due.is("the first cell", x.read(3, 0), REFUSED);
        due.is("the last cell", x.read(3, 31), REFUSED);
        due.is("out of range", x.read(3, 32), REFUSED);
    }

    private static void promise9Locked(Due due) {
        due.sentence("Promise 9", "The cell is in a lock that is alone, of another handle: LOCKED");
        ShareServer x = fileAndFolder();
        due.is("alone", x.lock(1, 8, 8, true), 1);
        due.is("shared", x.lock(1, 16, 8, false), 2);
        int[] cells = {0, 7, 8, 15, 16, 23, 24, 31};
        for (int cell : cells) {
            due.is("another handle, cell " + cell, x.read(2, cell), cell == 8 || cell == 15 ? LOCKED : 0);
            due.is("the same handle, cell " + cell, x.read(1, cell), 0);
        }
        due.is("the same client, another handle", Due.opened(x, 0, 0, 0, Due.ALL, 0), 4);
        due.is("is another handle", x.read(4, 8), LOCKED);
        due.is("unlock", x.unlock(1, 8, 8), 1);
        due.is("no lock", x.read(4, 8), 0);
    }

    private static void promise10BeforeTheFirst(Due due) {
        due.sentence("Promise 10", "0 before the first one");
        ShareServer x = fileAndFolder();
        due.is("no read", x.value(), 0);
        x.write(1, 0, 77);
        due.is("a refused read", x.read(1, 32), REFUSED);
        due.is("is none", x.value(), 0);
        x.lock(1, 0, 1, true);
        due.is("a locked read", x.read(2, 0), LOCKED);
        due.is("is none", x.value(), 0);
        due.is("the first read", x.read(1, 0), 0);
        due.is("value", x.value(), 77);
    }

    private static void promise10TheLastThatAnswered0(Due due) {
        due.sentence("Promise 10", "The value that the last read that answered 0 has read");
        ShareServer x = fileAndFolder();
        x.write(1, 0, Integer.MIN_VALUE);
        x.write(1, 1, Integer.MAX_VALUE);
        x.write(1, 2, REFUSED);
        due.cell("the lowest int", x, 1, 0, Integer.MIN_VALUE);
        due.cell("the highest int", x, 2, 1, Integer.MAX_VALUE);
        due.cell("a value that looks like a code", x, 2, 2, REFUSED);
        x.write(1, 2, 5);
        due.is("a later write", x.value(), REFUSED);
        due.is("a refused read", x.read(3, 0), REFUSED);
        due.is("value", x.value(), REFUSED);
        x.lock(1, 1, 1, true);
        due.is("a locked read", x.read(2, 1), LOCKED);
        due.is("value", x.value(), REFUSED);
        x.close(1);
        x.close(2);
        due.is("when the handles are closed", x.value(), REFUSED);
        x.crash();
        due.is("after a crash", x.value(), REFUSED);
    }

    private static void promise11Cell(Due due) {
        due.sentence("Promise 11", "Writes the cell (0 .. 31) of the handle's file");
        ShareServer x = fileAndFolder();
        due.is("the first", x.write(1, 0, 10), 0);
        due.is("the last", x.write(1, 31, 41), 0);
        due.is("cell -1", x.write(1, -1, 9), REFUSED);
        due.is("cell 32", x.write(1, 32, 9), REFUSED);
        for (int wild : Due.WILD) {
            due.is("cell " + wild, x.write(1, wild, 9), REFUSED);
        }
        due.is("changes", x.count(3), 4);
        for (int cell = 0; cell <= 31; cell++) {
            due.cell("only these", x, 2, cell, cell == 0 ? 10 : cell == 31 ? 41 : 0);
        }
    }

    private static void promise11NeedsWrite(Due due) {
        due.sentence("Promise 11", "the handle has WRITE, else REFUSED");
        for (int access = 1; access <= 7; access++) {
            ShareServer x = new ShareServer();
            x.open(0, 0, 0, access | Due.SHARE_ALL | Due.MAKE, 0);
            x.open(0, 0, 0, Due.ALL, 1);
            boolean may = access / 2 % 2 == 1;
            due.is("access " + access, x.write(1, 5, 50), may ? 0 : REFUSED);
            due.is("changes", x.count(3), may ? 2 : 1);
            due.is("the other's GRANT", x.handle(2, 3), may ? 0 : 1);
            x.lock(2, 5, 1, true);
            due.is("before LOCKED, access " + access, x.write(1, 5, 51), may ? LOCKED : REFUSED);
            due.cell("written", x, 2, 5, may ? 50 : 0);
        }
    }

    private static void promise11Directory(Due due) {
        due.sentence("Promise 11", "a directory: REFUSED");
        ShareServer x = fileAndFolder();
        due.is("the first cell", x.write(3, 0, 1), REFUSED);
        due.is("the last cell", x.write(3, 31, 1), REFUSED);
        due.is("out of range", x.write(3, 32, 1), REFUSED);
        due.is("changes", x.count(3), 2);
    }

    private static void promise11Locked(Due due) {
        due.sentence("Promise 11", "The cell is in a lock of another handle, or in one of this handle that is shared: LOCKED");
        ShareServer x = fileAndFolder();
        due.is("alone", x.lock(1, 8, 8, true), 1);
        due.is("shared", x.lock(1, 16, 8, false), 2);
        int[] cells = {0, 7, 8, 15, 16, 23, 24, 31};
        for (int cell : cells) {
            boolean inAlone = cell == 8 || cell == 15;
            boolean inShared = cell == 16 || cell == 23;
            due.is("another handle, cell " + cell, x.write(2, cell, 1), inAlone || inShared ? LOCKED : 0);
            due.is("the same handle, cell " + cell, x.write(1, cell, 2), inShared ? LOCKED : 0);
        }
        due.is("changes", x.count(3), 2 + 4 + 6);
        due.is("shared by both", x.lock(2, 16, 8, false), 3);
        due.is("its own is gone", x.unlock(1, 16, 8), 2);
        due.is("the other's bars", x.write(1, 16, 1), LOCKED);
        due.is("the other's is gone", x.unlock(2, 16, 8), 1);
        due.is("no lock", x.write(1, 16, 1), 0);
    }

    private static void promise11SharedGrants(Due due) {
        due.sentence("Promise 11", "Else each other handle of the file with the GRANT 1 has 0, and the answer is 0");
        ShareServer x = new ShareServer();
        for (int i = 1; i <= 11; i++) {
            due.is("eleven of the file", Due.opened(x, 0, 0, 0, Due.NEW_FILE, 1), i);
        }
        due.is("one of another", Due.opened(x, 0, 0, 1, Due.NEW_FILE, 1), 12);
        x.lock(1, 31, 1, true);
        due.is("LOCKED", x.write(6, 31, 1), LOCKED);
        due.is("out of range", x.write(6, 32, 1), REFUSED);
        for (int i = 1; i <= 11; i++) {
            due.is("as before, " + i, x.handle(i, 3), 1);
        }
        due.is("written", x.write(6, 0, 1), 0);
        for (int i = 1; i <= 11; i++) {
            due.is("after the write, " + i, x.handle(i, 3), i == 6 ? 1 : 0);
        }
        due.is("of another file", x.handle(12, 3), 1);
        due.is("written by one with none", x.write(1, 0, 1), 0);
        due.is("the last one's", x.handle(6, 3), 0);
        ShareServer y = new ShareServer();
        due.is("alone", Due.opened(y, 0, 0, 0, Due.NEW_FILE, 2), 1);
        due.is("written", y.write(1, 0, 1), 0);
        due.is("its own stays 2", y.handle(1, 3), 2);
        due.is("waits", Due.opened(y, 0, 0, 0, Due.ALL, 0), ShareServer.WAITING);
        due.is("written", y.write(1, 0, 1), 0);
        due.is("its own stays 3", y.handle(1, 3), 3);
        due.is("given up", y.giveUp(1), 1);
        due.is("written by the other", y.write(2, 0, 1), 0);
        due.is("1 has 0", y.handle(1, 3), 0);
    }

    private static void promise11TheSameValue(Due due) {
        due.sentence("Promise 11", "(It is a change also if the value was there.)");
        ShareServer x = fileAndFolder();
        due.is("the 0 that was there at first", x.write(1, 0, 0), 0);
        due.is("changes", x.count(3), 3);
        due.is("another value", x.write(1, 0, 5), 0);
        due.is("the same", x.write(1, 0, 5), 0);
        due.is("by another handle", x.write(2, 0, 5), 0);
        due.is("changes", x.count(3), 6);
        due.is("the sixth makes all durable", x.count(4), 6);
    }

    private static void promise12N(Due due) {
        due.sentence("Promise 12", "Locks n (1 .. 32) cells");
        for (int n = -1; n <= 34; n++) {
            ShareServer x = fileAndFolder();
            boolean fine = n >= 1 && n <= 32;
            due.is("n " + n, x.lock(1, 0, n, true), fine ? 1 : REFUSED);
            due.is("locks", x.node(1, 5), fine ? 1 : 0);
            due.is("the first cell", x.read(2, 0), fine ? LOCKED : 0);
            due.is("the last cell locked", x.read(2, Math.max(0, Math.min(31, n - 1))), fine ? LOCKED : 0);
            due.is("the cell after it", x.read(2, Math.min(31, Math.max(0, n))), n == 32 ? LOCKED : 0);
        }
        ShareServer x = fileAndFolder();
        for (int wild : Due.WILD) {
            due.is("n " + wild, x.lock(1, 0, wild, true), REFUSED);
            due.is("n " + wild + " from the last cell on", x.lock(1, 31, wild, true), REFUSED);
        }
        due.is("locks", x.node(1, 5), 0);
    }

    private static void promise12First(Due due) {
        due.sentence("Promise 12", "from the cell first (0 .. 31) on");
        for (int first = -2; first <= 33; first++) {
            ShareServer x = fileAndFolder();
            boolean fine = first >= 0 && first <= 31;
            due.is("first " + first, x.lock(1, first, 1, true), fine ? 1 : REFUSED);
            due.is("locks", x.node(1, 5), fine ? 1 : 0);
        }
        ShareServer x = fileAndFolder();
        for (int wild : Due.WILD) {
            due.is("first " + wild, x.lock(1, wild, 1, true), REFUSED);
            due.is("first " + wild + ", 32 cells", x.lock(1, wild, 32, true), REFUSED);
        }
        due.is("locks", x.node(1, 5), 0);
    }

    private static void promise12NotBeyond31(Due due) {
        due.sentence("Promise 12", "not beyond 31 (else REFUSED)");
        for (int first = 0; first <= 31; first++) {
            ShareServer x = fileAndFolder();
            int most = 32 - first;
            due.is("from " + first + " one too many", x.lock(1, first, most + 1, true), REFUSED);
            due.is("from " + first + " to the end", x.lock(1, first, most, true), 1);
            due.is("the last cell", x.read(2, 31), LOCKED);
            due.is("locks", x.node(1, 5), 1);
        }
        due.is("32 from 1 on", fileAndFolder().lock(1, 1, 32, false), REFUSED);
        due.is("32 from 31 on", fileAndFolder().lock(1, 31, 32, false), REFUSED);
    }

    private static void promise12SumsThatWrapAround(Due due) {
        due.sentence("Promise 12", "not beyond 31 (else REFUSED) [with sums that wrap around]");
        int[][] ranges = {
            {31, Integer.MAX_VALUE}, {1, Integer.MAX_VALUE}, {0, Integer.MAX_VALUE}, {31, Integer.MAX_VALUE - 30},
            {Integer.MAX_VALUE, 1}, {Integer.MAX_VALUE, 32}, {Integer.MAX_VALUE, Integer.MAX_VALUE},
            {Integer.MIN_VALUE, Integer.MIN_VALUE}, {Integer.MIN_VALUE, Integer.MIN_VALUE + 1},
            {Integer.MIN_VALUE, Integer.MIN_VALUE + 32}, {Integer.MIN_VALUE, Integer.MAX_VALUE}, {Integer.MIN_VALUE, 1},
            {Integer.MIN_VALUE, 32}, {Integer.MAX_VALUE, Integer.MIN_VALUE + 2}, {Integer.MAX_VALUE, Integer.MIN_VALUE + 33},
            {0, Integer.MIN_VALUE}, {1, Integer.MIN_VALUE}, {31, Integer.MIN_VALUE}, {-1, 2}, {-1, 33}, {-31, 32}, {-32, 64},
            {32, 0}, {33, -1}, {32, -1}, {31, 0}, {0, 0}, {31, -30}, {1 << 30, 1 << 30}, {1 << 30, -(1 << 30) + 1},
        };
        ShareServer x = fileAndFolder();
        for (int[] range : ranges) {
            due.is("lock " + range[0] + ", " + range[1], x.lock(1, range[0], range[1], true), REFUSED);
            due.is("shared " + range[0] + ", " + range[1], x.lock(1, range[0], range[1], false), REFUSED);
            due.is("locks", x.node(1, 5), 0);
        }
        due.is("all cells are free", x.lock(2, 0, 32, true), 1);
    }

    private static void promise12Directory(Due due) {
        due.sentence("Promise 12", "of the handle's file (a directory: REFUSED)");
        ShareServer x = fileAndFolder();
        due.is("one cell", x.lock(3, 0, 1, true), REFUSED);
        due.is("all cells, shared", x.lock(3, 0, 32, false), REFUSED);
        due.is("locks", x.node(2, 5), 0);
        due.is("any access will do", Due.opened(x, 0, 0, 2, Due.DELETE | Due.MAKE, 0), 4);
        due.is("on a file", x.lock(4, 0, 1, true), 1);
    }

    private static void promise12Locked(Due due) {
        due.sentence("Promise 12", "A lock of the file MEETS them, and it or this one is alone (of this handle too): LOCKED");
        for (int kinds = 0; kinds < 8; kinds++) {
            boolean one = kinds % 2 == 1;
            boolean other = kinds / 2 % 2 == 1;
            int handle = 1 + kinds / 4;
            ShareServer x = fileAndFolder();
            due.is("the first", x.lock(1, 8, 8, one), 1);
            due.is("beside it, below", x.lock(handle, 0, 8, other), 2);
            due.is("beside it, above", x.lock(handle, 16, 16, other), 3);
            due.is("its first cell, kinds " + kinds, x.lock(handle, 8, 1, other), one || other ? LOCKED : 4);
            due.is("its last cell, kinds " + kinds, x.lock(handle, 15, 1, other), one || other ? LOCKED : 5);
            due.is("locks", x.node(1, 5), one || other ? 3 : 5);
        }
        ShareServer x = fileAndFolder();
        for (int i = 0; i < 8; i++) {
            due.is("eight", x.lock(1, i, 1, i == 7), i + 1);
        }
        due.is("before FULL: meets the last one only", x.lock(2, 7, 25, false), LOCKED);
        due.is("before FULL: is alone", x.lock(2, 0, 1, true), LOCKED);
        due.is("meets shared ones: FULL", x.lock(2, 0, 7, false), FULL);
    }

    private static void promise12Full(Due due) {
        due.sentence("Promise 12", "There are 8: FULL. Else how many there are");
        ShareServer x = fileAndFolder();
        for (int i = 0; i < 8; i++) {
            due.is("lock " + (i + 1), x.lock(1 + i % 2, 4 * i, 4, true), i + 1);
        }
        due.is("unlock", x.unlock(1, 0, 4), 7);
        due.is("the eighth", x.lock(2, 0, 2, true), 8);
        due.is("a ninth that meets none", x.lock(2, 2, 2, true), FULL);
        due.is("a ninth that meets none, shared", x.lock(1, 2, 2, false), FULL);
        due.is("locks", x.node(1, 5), 8);
        due.is("the cells are free", x.write(1, 2, 1), 0);
    }

    private static void promise13JustTheseCells(Due due) {
        due.sentence("Promise 13", "The handle's oldest lock of just these cells is gone: how many the file has");
        ShareServer x = fileAndFolder();
        due.is("the first cell", x.lock(1, 0, 1, true), 1);
        due.is("the last cell", x.lock(1, 31, 1, true), 2);
        due.is("some cells", x.lock(1, 8, 8, true), 3);
        due.is("of another handle", x.lock(2, 16, 8, true), 4);
        int[][] others = {{8, 7}, {8, 9}, {7, 8}, {9, 8}, {9, 7}, {7, 9}, {7, 10}, {16, 8}, {0, 32}, {0, 2}, {30, 2}, {1, 1}};
        for (int[] other : others) {
            due.is("unlock " + other[0] + ", " + other[1], x.unlock(1, other[0], other[1]), REFUSED);
        }
        due.is("locks", x.node(1, 5), 4);
        due.is("some cells", x.unlock(1, 8, 8), 3);
        due.is("the last cell", x.unlock(1, 31, 1), 2);
        due.is("the first cell", x.unlock(1, 0, 1), 1);
        due.is("of another handle", x.unlock(2, 16, 8), 0);
        ShareServer y = fileAndFolder();
        due.is("all cells", y.lock(1, 0, 32, true), 1);
        due.is("all but one", y.unlock(1, 0, 31), REFUSED);
        due.is("all but one", y.unlock(1, 1, 31), REFUSED);
        due.is("all cells", y.unlock(1, 0, 32), 0);
    }

    private static void promise13TheOldest(Due due) {
        due.sentence("Promise 13", "The handle's oldest lock [one of them only]");
        ShareServer x = fileAndFolder();
        for (int i = 1; i <= 8; i++) {
            due.is("shared", x.lock(i <= 6 ? 1 : 2, 4, 4, false), i);
        }
        for (int left = 7; left >= 2; left--) {
            due.is("one goes", x.unlock(1, 4, 4), left);
        }
        due.is("none of this handle", x.unlock(1, 4, 4), REFUSED);
        due.is("the others' are there", x.node(1, 5), 2);
        due.is("the other's", x.unlock(2, 4, 4), 1);
        due.is("the other's", x.unlock(2, 4, 4), 0);
    }

    private static void promise13None(Due due) {
        due.sentence("Promise 13", "REFUSED if there is none");
        ShareServer x = fileAndFolder();
        due.is("no lock at all", x.unlock(1, 0, 1), REFUSED);
        due.is("a directory", x.unlock(3, 0, 1), REFUSED);
        due.is("lock", x.lock(1, 0, 1, true), 1);
        due.is("another handle of the file", x.unlock(2, 0, 1), REFUSED);
        due.is("unlock", x.unlock(1, 0, 1), 0);
        due.is("a second time", x.unlock(1, 0, 1), REFUSED);
    }

    private static void promise13SumsThatWrapAround(Due due) {
        due.sentence("Promise 13", "of just these cells [..] REFUSED if there is none [with numbers out of range]");
        ShareServer x = fileAndFolder();
        due.is("the last cell", x.lock(1, 31, 1, false), 1);
        due.is("all cells", x.lock(1, 0, 32, false), 2);
        int[][] ranges = {
            {31, 0}, {31, -1}, {31, 2}, {31, Integer.MAX_VALUE}, {31, Integer.MIN_VALUE + 1}, {0, 0}, {0, 33}, {-1, 33}, {32, 0},
            {Integer.MIN_VALUE, Integer.MIN_VALUE + 32}, {Integer.MAX_VALUE, Integer.MIN_VALUE + 33}, {0, Integer.MIN_VALUE},
            {Integer.MIN_VALUE, 32}, {65536, 32}, {31, 65537}, {-256, 32}, {31, 257}, {287, 1},
        };
        for (int[] range : ranges) {
            due.is("unlock " + range[0] + ", " + range[1], x.unlock(1, range[0], range[1]), REFUSED);
        }
        due.is("locks", x.node(1, 5), 2);
        due.is("the last cell", x.unlock(1, 31, 1), 1);
        due.is("all cells", x.unlock(1, 0, 32), 0);
    }
}
