/** Promises 9 to 11: read, value and write. */
public final class CellsTest {
    private static final int REFUSED = ShareServer.REFUSED;
    private static final int LOCKED = ShareServer.LOCKED;

    public static void main(String[] args) {
        Due due = new Due();
        wrongNumbers(due);
        allCells(due);
        theLastRead(due);
        accessIsNeeded(due);
        readingUnderLocks(due);
        writingUnderLocks(due);
        writesEndSharedGrants(due);
        due.end();
    }

    private static void wrongNumbers(Due due) {
        ShareServer x = new ShareServer();
        due.is("read, no handle", x.read(1, 0), REFUSED);
        due.is("write, no handle", x.write(1, 0, 1), REFUSED);
        x.open(0, 0, 0, Due.NEW_FILE, 0);
        due.is("read, handle 0", x.read(0, 0), REFUSED);
        due.is("read, cell -1", x.read(1, -1), REFUSED);
        due.is("read, cell 32", x.read(1, 32), REFUSED);
        due.is("write, cell -1", x.write(1, -1, 1), REFUSED);
        due.is("write, cell 32", x.write(1, 32, 1), REFUSED);
        for (int wild : Due.WILD) {
            due.is("read, handle " + wild, x.read(wild, 0), REFUSED);
            due.is("read, cell " + wild, x.read(1, wild), REFUSED);
            due.is("write, handle " + wild, x.write(wild, 0, 1), REFUSED);
            due.is("write, cell " + wild, x.write(1, wild, 1), REFUSED);
        }
        x.open(0, 0, 1, Due.NEW_FOLDER, 0);
        due.is("read a directory", x.read(2, 0), REFUSED);
        due.is("write a directory", x.write(2, 0, 1), REFUSED);
        due.is("no change", x.count(3), 2);
        x.close(1);
        due.is("read, closed", x.read(1, 0), REFUSED);
        due.is("write, closed", x.write(1, 0, 1), REFUSED);
    }

    private static void allCells(Due due) {
        ShareServer x = new ShareServer();
        x.open(0, 0, 0, Due.NEW_FILE, 0);
        x.open(0, 0, 1, Due.NEW_FILE, 0);
        for (int cell = 0; cell < 32; cell++) {
            due.cell("at first", x, 1, cell, 0);
            due.is("write", x.write(1, cell, 1000 - 77 * cell), 0);
        }
        for (int cell = 0; cell < 32; cell++) {
            due.cell("written", x, 1, cell, 1000 - 77 * cell);
            due.cell("the other file", x, 2, cell, 0);
        }
        due.is("each write is a change", x.count(3), 34);
        due.is("with the same value too", x.write(1, 0, 1000), 0);
        due.is("one more change", x.count(3), 35);
        due.is("the lowest value", x.write(1, 31, Integer.MIN_VALUE), 0);
        due.cell("the lowest value", x, 1, 31, Integer.MIN_VALUE);
        due.is("the highest value", x.write(1, 31, Integer.MAX_VALUE), 0);
        due.cell("the highest value", x, 1, 31, Integer.MAX_VALUE);
        x.close(1);
        due.is("opened again", Due.opened(x, 3, 0, 0, Due.ALL, 0), 3);
        due.cell("cells stay", x, 3, 31, Integer.MAX_VALUE);
    }

    private static void theLastRead(Due due) {
        ShareServer x = new ShareServer();
        x.open(0, 0, 0, Due.NEW_FILE, 0);
        x.open(0, 0, 0, Due.ALL, 0);
        x.write(1, 5, 55);
        due.is("before a read", x.value(), 0);
        due.is("read", x.read(2, 5), 0);
        due.is("after it", x.value(), 55);
        due.is("again", x.value(), 55);
        x.write(1, 5, 56);
        due.is("a write does not change it", x.value(), 55);
        due.is("a refused read", x.read(2, 32), REFUSED);
        due.is("does not change it", x.value(), 55);
        x.lock(1, 6, 1, true);
        due.is("a locked read", x.read(2, 6), LOCKED);
        due.is("does not change it", x.value(), 55);
        x.crash();
        due.is("nor does a crash", x.value(), 55);
    }

    private static void accessIsNeeded(Due due) {
        ShareServer x = new ShareServer();
        x.open(0, 0, 0, Due.READ | Due.SHARE_ALL | Due.MAKE, 0);
        x.open(0, 0, 0, Due.WRITE | Due.SHARE_ALL, 0);
        x.open(0, 0, 0, Due.DELETE | Due.SHARE_ALL, 0);
        due.is("READ reads", x.read(1, 0), 0);
        due.is("READ does not write", x.write(1, 0, 1), REFUSED);
        due.is("WRITE does not read", x.read(2, 0), REFUSED);
        due.is("WRITE writes", x.write(2, 0, 4), 0);
        due.is("DELETE does not read", x.read(3, 0), REFUSED);
        due.is("DELETE does not write", x.write(3, 0, 1), REFUSED);
        due.cell("written", x, 1, 0, 4);
        x.lock(3, 0, 32, true);
        due.is("REFUSED before LOCKED, read", x.read(2, 0), REFUSED);
        due.is("REFUSED before LOCKED, write", x.write(1, 0, 1), REFUSED);
    }

    private static void readingUnderLocks(Due due) {
        ShareServer x = new ShareServer();
        x.open(0, 0, 0, Due.NEW_FILE, 0);
        x.open(1, 0, 0, Due.ALL, 0);
        x.open(1, 0, 1, Due.NEW_FILE, 0);
        due.is("alone", x.lock(1, 4, 3, true), 1);
        due.is("shared", x.lock(1, 10, 3, false), 2);
        for (int cell = 0; cell < 32; cell++) {
            due.is("own, cell " + cell, x.read(1, cell), 0);
            due.is("other, cell " + cell, x.read(2, cell), cell >= 4 && cell <= 6 ? LOCKED : 0);
            due.is("other file, cell " + cell, x.read(3, cell), 0);
        }
        due.is("unlock", x.unlock(1, 4, 3), 1);
        due.is("free", x.read(2, 5), 0);
    }

    private static void writingUnderLocks(Due due) {
        ShareServer x = new ShareServer();
        x.open(0, 0, 0, Due.NEW_FILE, 0);
        x.open(0, 0, 0, Due.ALL, 0);
        x.open(0, 0, 1, Due.NEW_FILE, 0);
        due.is("alone", x.lock(1, 4, 3, true), 1);
        due.is("shared", x.lock(1, 10, 3, false), 2);
        for (int cell = 0; cell < 32; cell++) {
            boolean inAlone = cell >= 4 && cell <= 6;
            boolean inShared = cell >= 10 && cell <= 12;
            due.is("own, cell " + cell, x.write(1, cell, 1), inShared ? LOCKED : 0);
            due.is("other, cell " + cell, x.write(2, cell, 2), inShared || inAlone ? LOCKED : 0);
            due.is("other file, cell " + cell, x.write(3, cell, 3), 0);
        }
        due.cell("own in alone", x, 1, 5, 1);
        due.cell("in shared", x, 1, 11, 0);
        due.cell("in none", x, 1, 31, 2);
        due.is("changes", x.count(3), 2 + 29 + 26 + 32);
    }

    private static void writesEndSharedGrants(Due due) {
        ShareServer x = new ShareServer();
        x.open(0, 0, 0, Due.NEW_FILE, 1);
        x.open(1, 0, 0, Due.ALL, 1);
        x.open(2, 0, 0, Due.ALL, 0);
        x.open(3, 0, 0, Due.ALL, 2);
        x.open(3, 0, 1, Due.NEW_FILE, 1);
        x.open(3, 0, 2, Due.NEW_FILE, 2);
        x.lock(3, 9, 1, true);
        due.is("a locked write", x.write(1, 9, 1), LOCKED);
        due.is("ends no grant", x.handle(2, 3), 1);
        due.is("a refused write", x.write(1, 32, 1), REFUSED);
        due.is("ends no grant", x.handle(2, 3), 1);
        due.is("a write", x.write(1, 0, 0), 0);
        due.is("the writer's stays", x.handle(1, 3), 1);
        due.is("the second's is gone", x.handle(2, 3), 0);
        due.is("the third has none", x.handle(3, 3), 0);
        due.is("the fourth's is gone", x.handle(4, 3), 0);
        due.is("on another file it stays", x.handle(5, 3), 1);
        due.is("alone on another file stays", x.handle(6, 3), 2);
        due.is("a write by one that has none", x.write(3, 0, 0), 0);
        due.is("the first's is gone", x.handle(1, 3), 0);
        due.is("a write by one that is alone", x.write(6, 0, 0), 0);
        due.is("keeps it", x.handle(6, 3), 2);
        due.is("waits", Due.opened(x, 0, 0, 2, Due.ALL, 0), ShareServer.WAITING);
        due.is("a write while BREAKING", x.write(6, 0, 8), 0);
        due.is("keeps it", x.handle(6, 3), 3);
        due.is("and wakes none", x.count(2), 1);
    }
}
