/** Promises 6 and 7: close, CLOSING's effects, and doom. */
public final class CloseTest {
    private static final int REFUSED = ShareServer.REFUSED;

    public static void main(String[] args) {
        Due due = new Due();
        closing(due);
        locksAreGone(due);
        removesAFile(due);
        removesADirectory(due);
        dooming(due);
        doomIsTakenBack(due);
        theLastCloseCounts(due);
        due.end();
    }

    private static void closing(Due due) {
        ShareServer x = new ShareServer();
        due.is("close(0)", x.close(0), REFUSED);
        due.is("close(1)", x.close(1), REFUSED);
        x.open(0, 0, 0, Due.NEW_FILE, 0);
        x.open(0, 0, 0, Due.ALL, 0);
        x.open(0, 0, 0, Due.ALL, 0);
        due.is("close(4)", x.close(4), REFUSED);
        for (int wild : Due.WILD) {
            due.is("close " + wild, x.close(wild), REFUSED);
        }
        due.is("the middle one", x.close(2), 2);
        due.is("again", x.close(2), REFUSED);
        due.is("it is no handle", x.handle(2, 0), REFUSED);
        due.is("the first", x.handle(1, 0), 1);
        due.is("the third", x.handle(3, 0), 1);
        due.is("its handles", x.node(1, 4), 2);
        due.is("the first", x.close(1), 1);
        due.is("the third", x.close(3), 0);
        due.is("the file stays", x.find(0, 0), 1);
        due.is("closing is no change", x.count(3), 1);
    }

    private static void locksAreGone(Due due) {
        ShareServer x = new ShareServer();
        x.open(0, 0, 0, Due.NEW_FILE, 0);
        x.open(0, 0, 0, Due.ALL, 0);
        due.is("lock", x.lock(1, 0, 2, true), 1);
        due.is("lock", x.lock(2, 4, 2, true), 2);
        due.is("lock", x.lock(1, 8, 2, true), 3);
        due.is("lock", x.lock(2, 12, 2, true), 4);
        due.is("close", x.close(1), 1);
        due.is("the other's locks stay", x.node(1, 5), 2);
        due.is("the cells are free", x.lock(2, 0, 2, true), 3);
        due.is("the first of the other's", x.unlock(2, 4, 2), 2);
        due.is("the second of the other's", x.unlock(2, 12, 2), 1);
    }

    private static void removesAFile(Due due) {
        ShareServer x = new ShareServer();
        x.open(0, 0, 0, Due.NEW_FILE | Due.REMOVES, 0);
        x.open(0, 0, 0, Due.ALL, 0);
        due.is("not DOOMED before", x.node(1, 3), 0);
        due.is("close", x.close(1), 1);
        due.is("DOOMED", x.node(1, 3), 1);
        due.is("still there", x.find(0, 0), 1);
        due.is("the other reads on", x.read(2, 0), 0);
        due.is("the other writes on", x.write(2, 0, 3), 0);
        due.is("no new open", Due.opened(x, 0, 0, 0, Due.ALL, 0), ShareServer.DOOM);
        due.is("the last close", x.close(2), 0);
        due.is("removed", x.find(0, 0), ShareServer.NOWHERE);
        due.is("not there", x.node(1, 0), REFUSED);
        due.is("made, written, removed", x.count(3), 3);
        due.is("the place is free", Due.opened(x, 0, 0, 0, Due.NEW_FILE, 0), 3);
        due.is("a new number", x.find(0, 0), 2);
        due.cell("a new file", x, 3, 0, 0);
    }

    private static void removesADirectory(Due due) {
        ShareServer x = new ShareServer();
        x.open(0, 0, 0, Due.NEW_FOLDER | Due.REMOVES, 0);
        x.open(0, 1, 0, Due.NEW_FOLDER | Due.REMOVES, 0);
        due.is("with a node in it", x.close(1), 1);
        due.is("it is not DOOMED", x.node(1, 3), 0);
        due.is("it stays", x.find(0, 0), 1);
        due.is("without nodes in it", x.close(2), 0);
        due.is("removed", x.find(1, 0), ShareServer.NOWHERE);
        due.is("nodes in it", x.node(1, 6), 0);
        due.is("opened again", Due.opened(x, 0, 0, 0, Due.ALL | Due.FOLDER | Due.REMOVES, 0), 3);
        due.is("and a second time", Due.opened(x, 0, 0, 0, Due.ALL | Due.FOLDER, 0), 4);
        due.is("closed", x.close(3), 1);
        due.is("DOOMED, empty", x.node(1, 3), 1);
        due.is("nothing can be made in it", Due.opened(x, 0, 1, 0, Due.NEW_FILE, 0), ShareServer.DOOM);
        due.is("the last close", x.close(4), 0);
        due.is("removed", x.find(0, 0), ShareServer.NOWHERE);
        due.is("changes", x.count(3), 4);
    }

    private static void dooming(Due due) {
        ShareServer x = new ShareServer();
        x.open(0, 0, 0, Due.NEW_FOLDER, 0);
        x.open(0, 1, 0, Due.READ | Due.WRITE | Due.SHARE_ALL | Due.MAKE, 0);
        x.open(0, 1, 0, Due.DELETE | Due.SHARE_ALL, 0);
        due.is("not a handle", x.doom(4, true), REFUSED);
        due.is("handle 0", x.doom(0, false), REFUSED);
        for (int wild : Due.WILD) {
            due.is("doom " + wild, x.doom(wild, true), REFUSED);
        }
        due.is("without DELETE", x.doom(2, true), REFUSED);
        due.is("without DELETE, off", x.doom(2, false), REFUSED);
        due.is("a directory with a node in it", x.doom(1, true), REFUSED);
        due.is("it is not DOOMED", x.node(1, 3), 0);
        due.is("off is always fine", x.doom(1, false), 0);
        due.is("with DELETE", x.doom(3, true), 0);
        due.is("DOOMED", x.node(2, 3), 1);
        due.is("again", x.doom(3, true), 0);
        due.is("still", x.node(2, 3), 1);
        due.is("it is no change", x.count(3), 2);
        due.is("one closed", x.close(3), 2);
        due.is("still there", x.node(2, 3), 1);
        due.is("the other closed", x.close(2), 1);
        due.is("removed", x.node(2, 3), REFUSED);
        due.is("the directory is empty now", x.doom(1, true), 0);
        due.is("closed", x.doom(2, true), REFUSED);
        due.is("the directory closed", x.close(1), 0);
        due.is("the directory is removed", x.find(0, 0), ShareServer.NOWHERE);
    }

    private static void doomIsTakenBack(Due due) {
        ShareServer x = new ShareServer();
        x.open(0, 0, 0, Due.NEW_FILE, 0);
        x.open(0, 0, 0, Due.ALL | Due.REMOVES, 0);
        due.is("DOOMED", x.doom(1, true), 0);
        due.is("no open", Due.opened(x, 0, 0, 0, Due.ALL, 0), ShareServer.DOOM);
        due.is("taken back by another handle", x.doom(2, false), 0);
        due.is("an open", Due.opened(x, 0, 0, 0, Due.ALL, 0), 3);
        due.is("one that removes is closed", x.close(2), 2);
        due.is("DOOMED by it", x.node(1, 3), 1);
        due.is("taken back", x.doom(3, false), 0);
        due.is("closed", x.close(1), 1);
        due.is("closed", x.close(3), 0);
        due.is("the file stays", x.find(0, 0), 1);
    }

    private static void theLastCloseCounts(Due due) {
        ShareServer x = new ShareServer();
        x.open(0, 0, 0, Due.NEW_FILE, 0);
        x.open(0, 0, 1, Due.NEW_FILE, 0);
        due.is("DOOMED", x.doom(1, true), 0);
        due.is("another node's handle is closed", x.close(2), 1);
        due.is("nothing is removed", x.count(3), 2);
        due.is("still there", x.find(0, 0), 1);
        due.is("the other node too", x.find(0, 1), 2);
        due.is("closed", x.close(1), 0);
        due.is("removed", x.find(0, 0), ShareServer.NOWHERE);
    }
}
