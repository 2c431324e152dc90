/** Promises 14 and 15, and the durable changes: sync and crash. */
public final class LogTest {
    private static final int REFUSED = ShareServer.REFUSED;
    private static final int NOWHERE = ShareServer.NOWHERE;

    public static void main(String[] args) {
        Due due = new Due();
        sixBecomeDurable(due);
        syncing(due);
        undoesWrites(due);
        undoesMoves(due);
        undoesMaking(due);
        undoesRemoving(due);
        undoesAllInTurn(due);
        durableStays(due);
        closesWithoutEffects(due);
        losesWaiting(due);
        numbersGoOn(due);
        due.end();
    }

    private static void sixBecomeDurable(Due due) {
        ShareServer x = new ShareServer();
        x.open(0, 0, 0, Due.NEW_FILE, 0);
        for (int changes = 2; changes <= 25; changes++) {
            due.is("write", x.write(1, 0, changes), 0);
            due.is("changes", x.count(3), changes);
            due.is("durable of " + changes, x.count(4), changes / 6 * 6);
        }
        due.is("crash", x.crash(), 24);
        due.is("changes after it", x.count(3), 24);
        due.is("durable after it", x.count(4), 24);
        due.is("opened", Due.opened(x, 0, 0, 0, Due.ALL, 0), 2);
        due.cell("the 24th", x, 2, 0, 24);
        for (int more = 1; more <= 6; more++) {
            x.write(2, 1, more);
            due.is("counted anew after a crash: " + more, x.count(4), more == 6 ? 30 : 24);
        }
    }

    private static void syncing(Due due) {
        ShareServer x = new ShareServer();
        x.open(0, 0, 0, Due.NEW_FILE, 0);
        x.write(1, 0, 5);
        due.is("sync", x.sync(), 2);
        due.is("durable", x.count(4), 2);
        due.is("sync again", x.sync(), 2);
        for (int more = 1; more <= 5; more++) {
            x.write(1, 1, more);
            due.is("counted anew after a sync: " + more, x.count(4), 2);
        }
        x.write(1, 1, 6);
        due.is("six more", x.count(4), 8);
        due.is("sync with nothing to do", x.sync(), 8);
        due.is("handles stay open", x.count(1), 1);
    }

    private static void undoesWrites(Due due) {
        ShareServer x = new ShareServer();
        x.open(0, 0, 0, Due.NEW_FILE, 0);
        x.write(1, 0, 5);
        x.write(1, 31, 6);
        x.sync();
        x.write(1, 0, 7);
        x.write(1, 0, 8);
        x.write(1, 31, 9);
        x.write(1, 3, 10);
        due.is("crash", x.crash(), 3);
        due.is("opened", Due.opened(x, 0, 0, 0, Due.ALL, 0), 2);
        due.cell("written twice", x, 2, 0, 5);
        due.cell("written once", x, 2, 31, 6);
        due.cell("0 before", x, 2, 3, 0);
    }

    private static void undoesMoves(Due due) {
        ShareServer x = new ShareServer();
        x.open(0, 0, 0, Due.NEW_FILE, 0);
        x.open(0, 0, 1, Due.NEW_FOLDER, 0);
        x.open(0, 2, 2, Due.NEW_FILE, 0);
        x.sync();
        due.is("move", x.move(1, 2, 9), 0);
        due.is("another takes its place", x.move(3, 0, 0), 0);
        due.is("and on", x.move(1, 2, 2), 0);
        due.is("the directory moves", x.move(2, 0, 14), 0);
        due.is("crash", x.crash(), 3);
        due.is("back", x.find(0, 0), 1);
        due.is("back", x.find(0, 1), 2);
        due.is("back", x.find(2, 2), 3);
        due.is("nothing else in the root", x.node(0, 6), 2);
        due.is("nothing else in the directory", x.node(2, 6), 1);
    }

    private static void undoesMaking(Due due) {
        ShareServer x = new ShareServer();
        x.open(0, 0, 0, Due.NEW_FILE, 0);
        x.sync();
        x.open(0, 0, 1, Due.NEW_FOLDER, 0);
        x.open(0, 2, 1, Due.NEW_FILE, 0);
        x.write(3, 4, 44);
        due.is("crash", x.crash(), 1);
        due.is("gone", x.find(0, 1), NOWHERE);
        due.is("gone", x.find(2, 1), NOWHERE);
        due.is("not there", x.node(2, 2), REFUSED);
        due.is("not there", x.node(3, 2), REFUSED);
        due.is("numbers given", x.count(0), 1);
        due.is("in a directory that never was", Due.opened(x, 0, 2, 1, Due.NEW_FILE, 0), NOWHERE);
        due.is("made", Due.opened(x, 0, 0, 8, Due.NEW_FILE, 0), 4);
        due.is("the number is given again", x.find(0, 8), 2);
        due.is("a file this time", x.node(2, 2), 0);
        due.is("made", Due.opened(x, 0, 0, 9, Due.NEW_FILE, 0), 5);
        due.is("the number is given again", x.find(0, 9), 3);
        due.cell("its cells are new", x, 5, 4, 0);
    }

    private static void undoesRemoving(Due due) {
        ShareServer x = new ShareServer();
        x.open(0, 0, 0, Due.NEW_FILE | Due.REMOVES, 1);
        x.open(0, 0, 1, Due.NEW_FOLDER | Due.REMOVES, 0);
        x.write(1, 9, 99);
        x.sync();
        x.close(1);
        x.close(2);
        due.is("removed", x.node(1, 2), REFUSED);
        due.is("removed", x.node(2, 2), REFUSED);
        due.is("another at the place", Due.opened(x, 0, 0, 0, Due.NEW_FILE, 0), 3);
        due.is("crash", x.crash(), 3);
        due.is("back", x.find(0, 0), 1);
        due.is("back", x.find(0, 1), 2);
        due.is("the other one is gone", x.node(3, 2), REFUSED);
        due.is("not DOOMED", x.node(1, 3), 0);
        due.is("not DOOMED", x.node(2, 3), 0);
        due.is("a directory", x.node(2, 2), 1);
        due.is("opened", Due.opened(x, 0, 0, 0, Due.ALL, 2), 4);
        due.is("alone", x.handle(4, 3), 2);
        due.cell("its cells", x, 4, 9, 99);
    }

    private static void undoesAllInTurn(Due due) {
        ShareServer x = new ShareServer();
        x.open(0, 0, 0, Due.NEW_FILE, 0);
        x.write(1, 0, 1);
        x.sync();
        x.write(1, 0, 2);
        x.move(1, 0, 5);
        x.write(1, 0, 3);
        x.doom(1, true);
        x.close(1);
        due.is("made where it was", Due.opened(x, 0, 0, 0, Due.NEW_FILE, 0), 2);
        due.is("five are not durable", x.count(3) - x.count(4), 5);
        due.is("crash", x.crash(), 2);
        due.is("back at its first place", x.find(0, 0), 1);
        due.is("not at the second", x.find(0, 5), NOWHERE);
        due.is("numbers given", x.count(0), 1);
        due.is("opened", Due.opened(x, 0, 0, 0, Due.ALL, 0), 3);
        due.cell("its cell", x, 3, 0, 1);
    }

    private static void durableStays(Due due) {
        ShareServer x = new ShareServer();
        x.open(0, 0, 0, Due.NEW_FILE | Due.REMOVES, 0);
        x.open(0, 0, 1, Due.NEW_FILE, 0);
        x.write(2, 2, 22);
        x.move(2, 0, 3);
        x.close(1);
        due.is("sync", x.sync(), 5);
        due.is("crash", x.crash(), 5);
        due.is("removed", x.find(0, 0), NOWHERE);
        due.is("moved", x.find(0, 3), 2);
        due.is("numbers given", x.count(0), 2);
        due.is("opened", Due.opened(x, 0, 0, 3, Due.ALL, 0), 3);
        due.cell("written", x, 3, 2, 22);
        due.is("a second crash", x.crash(), 5);
        due.is("moved", x.find(0, 3), 2);
    }

    private static void closesWithoutEffects(Due due) {
        ShareServer x = new ShareServer();
        x.open(0, 0, 0, Due.NEW_FILE | Due.REMOVES, 0);
        x.open(0, 0, 1, Due.NEW_FILE, 2);
        x.open(0, 0, 2, Due.NEW_FOLDER, 0);
        x.doom(2, true);
        x.doom(3, true);
        x.lock(1, 0, 32, true);
        x.sync();
        due.is("crash", x.crash(), 3);
        due.counts("after it", x, 3, 0, 0, 3, 3, 3, 3);
        for (int i = 1; i <= 3; i++) {
            due.is("closed", x.handle(i, 0), REFUSED);
            due.is("closed", x.close(i), REFUSED);
            due.is("there", x.find(0, i - 1), i);
            due.is("not DOOMED", x.node(i, 3), 0);
            due.is("no handles", x.node(i, 4), 0);
            due.is("no locks", x.node(i, 5), 0);
            due.is("its outcome stays", x.outcome(i), i);
        }
        due.is("opened", Due.opened(x, 0, 0, 0, Due.ALL, 2), 4);
        due.is("alone", x.handle(4, 3), 2);
        due.is("no lock is left", x.lock(4, 0, 32, true), 1);
        due.is("closed: one that does not remove", x.close(4), 0);
        due.is("the file stays", x.find(0, 0), 1);
    }

    private static void losesWaiting(Due due) {
        ShareServer x = new ShareServer();
        x.open(0, 0, 0, Due.NEW_FILE, 2);
        x.open(0, 0, 0, Due.ALL, 0);
        x.open(0, 0, 0, Due.ALL, 0);
        x.open(0, 0, 9, Due.ALL, 0);
        x.cancel(3);
        x.sync();
        due.is("one waits", x.count(2), 1);
        due.is("crash", x.crash(), 1);
        due.is("none waits", x.count(2), 0);
        due.is("LOST", x.outcome(2), ShareServer.LOST);
        due.is("taken back before", x.outcome(3), ShareServer.LOST);
        due.is("NOWHERE stays", x.outcome(4), NOWHERE);
        due.is("the handle's number stays", x.outcome(1), 1);
        due.is("cancel", x.cancel(2), REFUSED);
        due.is("no handle is open", x.count(1), 0);
        due.is("opened at once", Due.opened(x, 0, 0, 0, Due.ALL, 2), 2);
    }

    private static void numbersGoOn(Due due) {
        ShareServer x = new ShareServer();
        x.open(0, 0, 0, Due.NEW_FILE, 0);
        x.open(0, 0, 1, Due.NEW_FILE, 0);
        due.is("crash", x.crash(), 0);
        due.counts("after it", x, 0, 0, 0, 0, 0, 2, 2);
        due.is("the next request", x.open(0, 0, 0, Due.NEW_FILE, 0), 3);
        due.is("the next handle", x.outcome(3), 3);
        due.is("the first node", x.handle(3, 0), 1);
    }
}
