/** The terms' CHANGES, and promises 14 and 15, sync and crash: each sentence, at five changes that are not durable and at six. */
public final class ChangesSentencesTest {
    private static final int REFUSED = ShareServer.REFUSED;
    private static final int NOWHERE = ShareServer.NOWHERE;
    private static final int WAITING = ShareServer.WAITING;
    private static final int LOST = ShareServer.LOST;

    public static void main(String[] args) {
        Due due = new Due();
        changesFourKinds(due);
        changesNothingElse(due);
        durableTheFirstSoMany(due);
        durableNotAtFirst(due);
        durableAtSixForEachKind(due);
        durableInTheMiddleOfACall(due);
        promise14NoneAndSome(due);
        promise14FiveAndSix(due);
        promise15NothingToUndo(due);
        promise15UndoesUpToFive(due);
        promise15UndoesEachKind(due);
        promise15GivesNumbersBack(due);
        promise15ClosesAllHandles(due);
        promise15LocksAreGone(due);
        promise15WithoutClosingsEffects(due);
        promise15NoNodeIsDoomed(due);
        promise15WaitingAreLost(due);
        promise15HowManyAreLeft(due);
        due.end();
    }

    /** A file at the place 0, 0 with the handle 1, and so many changes, none of which is durable while they are fewer than six. */
    private static ShareServer with(int changes) {
        ShareServer x = new ShareServer();
        x.open(0, 0, 0, Due.NEW_FILE, 0);
        for (int i = 2; i <= changes; i++) {
            x.write(1, 31, i);
        }
        return x;
    }

    private static void changesFourKinds(Due due) {
        due.sentence("Terms, CHANGES", "a node is made, a node is removed, a node is moved, a cell is written");
        ShareServer x = new ShareServer();
        x.open(0, 0, 0, Due.NEW_FILE, 0);
        due.is("a file is made", x.count(3), 1);
        x.open(0, 0, 1, Due.NEW_FOLDER, 0);
        due.is("a directory is made", x.count(3), 2);
        x.write(1, 0, 0);
        due.is("a cell is written", x.count(3), 3);
        x.move(1, 2, 0);
        due.is("a file is moved", x.count(3), 4);
        x.move(2, 0, 5);
        due.is("a directory is moved, with a node in it", x.count(3), 5);
        x.doom(1, true);
        x.close(1);
        due.is("a file is removed", x.count(3), 6);
        x.doom(2, true);
        x.close(2);
        due.is("a directory is removed", x.count(3), 7);
    }

    private static void changesNothingElse(Due due) {
        due.sentence("Terms, CHANGES", "CHANGES are [nothing else is one]");
        ShareServer x = with(3);
        x.open(1, 0, 0, Due.ALL, 1);
        x.open(1, 0, 9, Due.ALL, 0);
        x.open(1, 0, 0, Due.NEW_FILE | Due.FRESH, 0);
        x.giveUp(2);
        x.lock(1, 0, 4, true);
        x.write(2, 0, 1);
        x.write(2, 32, 1);
        x.read(1, 0);
        x.unlock(1, 0, 4);
        x.doom(1, true);
        x.doom(1, false);
        x.move(1, 0, 0);
        x.move(1, 9, 0);
        x.close(2);
        x.sync();
        due.is("changes", x.count(3), 3);
        x.crash();
        due.is("changes", x.count(3), 3);
    }

    private static void durableTheFirstSoMany(Due due) {
        due.sentence("Terms, CHANGES", "They are numbered in their order; the first so many are DURABLE");
        ShareServer x = new ShareServer();
        x.open(0, 0, 0, Due.NEW_FILE, 0);
        x.write(1, 0, 1);
        x.sync();
        x.write(1, 0, 2);
        x.write(1, 1, 3);
        due.is("changes", x.count(3), 4);
        due.is("durable", x.count(4), 2);
        due.is("crash", x.crash(), 2);
        x.open(0, 0, 0, Due.ALL, 0);
        due.cell("the second", x, 2, 0, 1);
        due.cell("not the fourth", x, 2, 1, 0);
        x.write(2, 0, 4);
        due.is("numbered on from those that are left", x.count(3), 3);
    }

    private static void durableNotAtFirst(Due due) {
        due.sentence("Terms, CHANGES", "A change is not durable at first; as soon as 6 changes are not, all become durable");
        for (int changes = 1; changes <= 19; changes++) {
            ShareServer x = with(changes);
            due.is("changes", x.count(3), changes);
            due.is("durable of " + changes, x.count(4), changes / 6 * 6);
            due.is("left of " + changes, x.crash(), changes / 6 * 6);
            due.is("durable then", x.count(4), changes / 6 * 6);
            due.is("the file", x.find(0, 0), changes < 6 ? NOWHERE : 1);
        }
        ShareServer x = with(5);
        due.is("sync", x.sync(), 5);
        for (int i = 1; i <= 5; i++) {
            x.write(1, 0, i);
            due.is(i + " after a sync", x.count(4), 5);
        }
        x.write(1, 0, 6);
        due.is("6 after a sync", x.count(4), 11);
        x.write(1, 0, 7);
        due.is("7 after a sync", x.count(4), 11);
    }

    private static void durableAtSixForEachKind(Due due) {
        due.sentence("Terms, CHANGES", "as soon as 6 changes are not, all become durable [whichever is the sixth]");
        ShareServer made = with(5);
        made.open(0, 0, 1, Due.NEW_FOLDER, 0);
        due.is("made", made.count(4), 6);
        due.is("crash", made.crash(), 6);
        due.is("it stays", made.find(0, 1), 2);
        ShareServer removed = with(5);
        removed.doom(1, true);
        due.is("doom is none", removed.count(4), 0);
        removed.close(1);
        due.is("removed", removed.count(4), 6);
        due.is("crash", removed.crash(), 6);
        due.is("it stays away", removed.find(0, 0), NOWHERE);
        due.is("its number stays given", removed.count(0), 1);
        ShareServer moved = with(5);
        moved.move(1, 0, 15);
        due.is("moved", moved.count(4), 6);
        due.is("crash", moved.crash(), 6);
        due.is("it stays there", moved.find(0, 15), 1);
        ShareServer written = with(5);
        written.write(1, 31, Integer.MIN_VALUE);
        due.is("written", written.count(4), 6);
        due.is("crash", written.crash(), 6);
        written.open(0, 0, 0, Due.ALL, 0);
        due.cell("it stays", written, 2, 31, Integer.MIN_VALUE);
    }

    private static void durableInTheMiddleOfACall(Due due) {
        due.sentence("Terms, CHANGES", "as soon as 6 changes are not [also in the middle of a call]");
        for (int before = 3; before <= 6; before++) {
            ShareServer x = new ShareServer();
            x.open(0, 0, 0, Due.NEW_FILE | Due.REMOVES, 2);
            for (int i = 2; i <= before; i++) {
                x.write(1, 0, i);
            }
            due.is("waits", Due.opened(x, 1, 0, 0, Due.NEW_FILE, 0), WAITING);
            due.is("one is removed and one is made", x.close(1), 1);
            due.is("changes", x.count(3), before + 2);
            int durable = before + 2 < 6 ? 0 : 6;
            due.is("durable of " + (before + 2), x.count(4), durable);
            due.is("crash", x.crash(), durable);
            int there = before < 4 ? NOWHERE : before == 4 ? 2 : before == 5 ? NOWHERE : 1;
            due.is("the place after " + before, x.find(0, 0), there);
            due.is("numbers after " + before, x.count(0), before < 4 ? 0 : before == 4 ? 2 : 1);
        }
    }

    private static void promise14NoneAndSome(Due due) {
        due.sentence("Promise 14", "All changes become durable: how many there are");
        ShareServer x = new ShareServer();
        due.is("none", x.sync(), 0);
        due.is("none", x.count(4), 0);
        x.open(0, 0, 0, Due.NEW_FILE, 2);
        due.is("one", x.sync(), 1);
        due.is("durable", x.count(4), 1);
        due.is("none more", x.sync(), 1);
        x.write(1, 0, 1);
        x.write(1, 0, 2);
        due.is("two more", x.sync(), 3);
        due.is("durable", x.count(4), 3);
        due.is("the handle is OPEN", x.handle(1, 3), 2);
        due.is("crash", x.crash(), 3);
        due.is("after a crash", x.sync(), 3);
    }

    private static void promise14FiveAndSix(Due due) {
        due.sentence("Promise 14", "All changes become durable [those that became so by themselves are counted too]");
        for (int changes = 1; changes <= 13; changes++) {
            ShareServer x = with(changes);
            due.is("sync after " + changes, x.sync(), changes);
            due.is("durable", x.count(4), changes);
            due.is("left", x.crash(), changes);
        }
    }

    private static void promise15NothingToUndo(Due due) {
        due.sentence("Promise 15", "The changes that are not durable are undone [when there are none]");
        ShareServer x = new ShareServer();
        due.is("a new object", x.crash(), 0);
        due.is("again", x.crash(), 0);
        due.counts("as before", x, 0, 0, 0, 0, 0, 0, 0);
        ShareServer y = with(6);
        due.is("all durable", y.crash(), 6);
        due.is("again", y.crash(), 6);
        due.is("the file", y.find(0, 0), 1);
        y.open(0, 0, 0, Due.ALL, 0);
        due.cell("its cell", y, 2, 31, 6);
    }

    private static void promise15UndoesUpToFive(Due due) {
        due.sentence("Promise 15", "The changes that are not durable are undone as if they had never been");
        for (int unsafe = 0; unsafe <= 6; unsafe++) {
            ShareServer x = with(2);
            x.sync();
            for (int i = 1; i <= unsafe; i++) {
                x.write(1, 31, 100 + i);
            }
            due.is("crash with " + unsafe, x.crash(), unsafe == 6 ? 8 : 2);
            due.is("changes", x.count(3), unsafe == 6 ? 8 : 2);
            x.open(0, 0, 0, Due.ALL, 0);
            due.cell("the cell with " + unsafe, x, 2, 31, unsafe == 6 ? 106 : 2);
        }
        ShareServer x = with(5);
        due.is("the making too", x.crash(), 0);
        due.is("the file", x.find(0, 0), NOWHERE);
        due.is("made again", Due.opened(x, 0, 0, 0, Due.NEW_FILE, 0), 2);
        due.cell("its cell", x, 2, 31, 0);
    }

    private static void promise15UndoesEachKind(Due due) {
        due.sentence("Promise 15", "are undone as if they had never been [each kind, and one after the other]");
        ShareServer x = new ShareServer();
        x.open(0, 0, 0, Due.NEW_FOLDER, 0);
        x.open(0, 1, 15, Due.NEW_FILE, 0);
        x.write(2, 0, Integer.MIN_VALUE);
        x.write(2, 31, Integer.MAX_VALUE);
        x.sync();
        x.write(2, 0, Integer.MAX_VALUE);
        x.move(2, 0, 1);
        x.doom(1, true);
        due.is("the directory is removed", x.close(1), 1);
        x.doom(2, true);
        due.is("the file is removed", x.close(2), 0);
        due.is("a file where the directory was", Due.opened(x, 0, 0, 0, Due.NEW_FILE, 0), 3);
        due.is("crash", x.crash(), 4);
        due.is("the directory", x.find(0, 0), 1);
        due.is("a directory", x.node(1, 2), 1);
        due.is("the file in it", x.find(1, 15), 2);
        due.is("not where it was moved", x.find(0, 1), NOWHERE);
        due.is("the made one", x.node(3, 2), REFUSED);
        due.is("opened", Due.opened(x, 0, 1, 15, Due.ALL, 0), 4);
        due.cell("the lowest int", x, 4, 0, Integer.MIN_VALUE);
        due.cell("the highest int", x, 4, 31, Integer.MAX_VALUE);
    }

    private static void promise15GivesNumbersBack(Due due) {
        due.sentence("Promise 15", "with the numbers of nodes that they made");
        ShareServer x = new ShareServer();
        x.open(0, 0, 0, Due.NEW_FILE | Due.REMOVES, 0);
        x.close(1);
        x.sync();
        x.open(0, 0, 0, Due.NEW_FILE, 0);
        x.open(0, 0, 1, Due.NEW_FOLDER | Due.REMOVES, 0);
        x.close(3);
        due.is("three are given", x.count(0), 3);
        due.is("crash", x.crash(), 2);
        due.is("one is given: the durable one that was removed", x.count(0), 1);
        due.is("the next", Due.opened(x, 0, 0, 5, Due.NEW_FILE, 0), 4);
        due.is("its number", x.handle(4, 0), 2);
        due.is("the removed one stays away", x.node(1, 0), REFUSED);
        due.is("and 3 is not given", x.node(3, 0), REFUSED);
    }

    private static void promise15ClosesAllHandles(Due due) {
        due.sentence("Promise 15", "all OPEN handles are closed");
        ShareServer x = new ShareServer();
        for (int i = 1; i <= 12; i++) {
            due.is("handle " + i, Due.opened(x, 0, 0, i, Due.NEW_FILE, i % 3), i);
        }
        x.crash();
        due.is("OPEN", x.count(1), 0);
        for (int i = 1; i <= 12; i++) {
            due.is("handle " + i, x.handle(i, 0), REFUSED);
            due.is("close " + i, x.close(i), REFUSED);
            due.is("its node's handles", x.node(i, 4), 0);
        }
        due.is("ever made", x.count(6), 12);
        due.is("the next number", Due.opened(x, 0, 0, 1, Due.ALL, 2), 13);
        due.is("no grant is left", x.handle(13, 3), 2);
    }

    private static void promise15LocksAreGone(Due due) {
        due.sentence("Promise 15", "and locks are gone");
        ShareServer x = with(6);
        for (int i = 0; i < 8; i++) {
            due.is("lock " + i, x.lock(1, i, 1, true), i + 1);
        }
        x.crash();
        due.is("its locks", x.node(1, 5), 0);
        x.open(0, 0, 0, Due.ALL, 0);
        due.is("all cells are free", x.lock(2, 0, 32, true), 1);
    }

    private static void promise15WithoutClosingsEffects(Due due) {
        due.sentence("Promise 15", "without CLOSING's effects");
        ShareServer x = new ShareServer();
        x.open(0, 0, 0, Due.NEW_FILE | Due.REMOVES, 0);
        x.open(0, 0, 1, Due.NEW_FOLDER | Due.REMOVES, 0);
        x.open(0, 0, 2, Due.NEW_FILE, 0);
        x.doom(3, true);
        x.sync();
        due.is("crash", x.crash(), 3);
        due.is("one that removes: its file stays", x.find(0, 0), 1);
        due.is("one that removes: its directory stays", x.find(0, 1), 2);
        due.is("a DOOMED one stays", x.find(0, 2), 3);
        due.is("changes", x.count(3), 3);
        due.is("not DOOMED by it", x.node(1, 3), 0);
    }

    private static void promise15NoNodeIsDoomed(Due due) {
        due.sentence("Promise 15", "no node is DOOMED");
        ShareServer x = new ShareServer();
        x.open(0, 0, 0, Due.NEW_FILE, 0);
        x.open(0, 0, 1, Due.NEW_FOLDER, 0);
        x.open(0, 0, 2, Due.NEW_FILE, 0);
        x.sync();
        x.doom(1, true);
        x.doom(2, true);
        x.doom(3, true);
        x.close(3);
        due.is("crash", x.crash(), 3);
        for (int node = 1; node <= 3; node++) {
            due.is("node " + node, x.node(node, 3), 0);
        }
        due.is("a file can be opened", Due.opened(x, 0, 0, 0, Due.ALL, 0), 4);
        due.is("nodes can be made in the directory", Due.opened(x, 0, 2, 0, Due.NEW_FILE, 0), 5);
        due.is("the one that is back can be opened", Due.opened(x, 0, 0, 2, Due.ALL, 0), 6);
        due.is("and is not removed", x.close(6), 2);
        due.is("it stays", x.find(0, 2), 3);
    }

    private static void promise15WaitingAreLost(Due due) {
        due.sentence("Promise 15", "WAITING requests are LOST");
        ShareServer x = with(6);
        x.close(1);
        x.open(0, 0, 0, Due.ALL, 2);
        x.open(1, 0, 0, Due.ALL, 0);
        x.open(2, 0, 0, Due.NEW_FILE, 2);
        x.open(3, 0, 0, Due.OLD_FOLDER, 2);
        due.is("waits", x.count(2), 2);
        x.crash();
        due.is("waits", x.count(2), 0);
        due.is("the first", x.outcome(3), LOST);
        due.is("the second", x.outcome(4), LOST);
        due.is("one that does not wait", x.outcome(5), ShareServer.KIND);
        due.is("one with a handle", x.outcome(2), 2);
        due.is("none has a handle by it", x.count(6), 2);
        due.is("cancel", x.cancel(3), REFUSED);
    }

    private static void promise15HowManyAreLeft(Due due) {
        due.sentence("Promise 15", "How many changes are left");
        for (int changes = 1; changes <= 13; changes++) {
            ShareServer x = with(changes);
            due.is("of " + changes, x.crash(), changes / 6 * 6);
            due.is("changes", x.count(3), changes / 6 * 6);
            due.is("durable", x.count(4), changes / 6 * 6);
            due.is("a second crash", x.crash(), changes / 6 * 6);
        }
    }
}
