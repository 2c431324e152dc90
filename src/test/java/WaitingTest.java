/** Promises 3 to 6: requests that wait for a grant, cancel, giveUp, and when they are TRIED AGAIN. */
public final class WaitingTest {
    private static final int REFUSED = ShareServer.REFUSED;
    private static final int WAITING = ShareServer.WAITING;

    public static void main(String[] args) {
        Due due = new Due();
        cancelling(due);
        givingUp(due);
        onlyTheBreakingGrantWakes(due);
        byRisingNumber(due);
        eachJustOnce(due);
        allOfThemAreTried(due);
        theTreeHasChanged(due);
        triedAgainIsTheLastThing(due);
        outcomesOfTheSecondTry(due);
        due.end();
    }

    private static void cancelling(Due due) {
        ShareServer x = new ShareServer();
        x.open(0, 0, 0, Due.NEW_FILE, 2);
        x.open(1, 0, 0, Due.ALL, 0);
        x.open(1, 0, 9, Due.ALL, 0);
        due.is("waits", x.outcome(2), WAITING);
        due.is("cancel of one that has a handle", x.cancel(1), REFUSED);
        due.is("cancel of one that failed", x.cancel(3), REFUSED);
        due.is("cancel(0)", x.cancel(0), REFUSED);
        due.is("cancel(4)", x.cancel(4), REFUSED);
        for (int wild : Due.WILD) {
            due.is("cancel " + wild, x.cancel(wild), REFUSED);
        }
        due.is("one waits", x.count(2), 1);
        due.is("cancel", x.cancel(2), 0);
        due.is("none waits", x.count(2), 0);
        due.is("LOST", x.outcome(2), ShareServer.LOST);
        due.is("cancel again", x.cancel(2), REFUSED);
        due.is("the grant stays BREAKING", x.handle(1, 3), 3);
        due.is("given up", x.giveUp(1), 1);
        due.is("a LOST one is not tried again", x.outcome(2), ShareServer.LOST);
        due.is("the first outcome is untouched", x.outcome(1), 1);
        due.is("NOWHERE stays", x.outcome(3), ShareServer.NOWHERE);
    }

    private static void givingUp(Due due) {
        ShareServer x = new ShareServer();
        x.open(0, 0, 0, Due.NEW_FILE, 2);
        due.is("alone to shared", x.giveUp(1), 1);
        due.is("told", x.handle(1, 3), 1);
        due.is("shared to none", x.giveUp(1), 0);
        due.is("told", x.handle(1, 3), 0);
        due.is("none", x.giveUp(1), REFUSED);
        due.is("not a handle", x.giveUp(2), REFUSED);
        due.is("handle 0", x.giveUp(0), REFUSED);
        for (int wild : Due.WILD) {
            due.is("giveUp " + wild, x.giveUp(wild), REFUSED);
        }
        x.close(1);
        due.is("closed", x.giveUp(1), REFUSED);
        due.is("a directory", Due.opened(x, 0, 0, 1, Due.NEW_FOLDER, 2), 2);
        due.is("has no grant", x.giveUp(2), REFUSED);
        due.is("a file again", Due.opened(x, 0, 0, 0, Due.ALL, 2), 3);
        due.is("waits", Due.opened(x, 1, 0, 0, Due.ALL, 2), WAITING);
        due.is("breaking", x.handle(3, 3), 3);
        due.is("breaking to shared", x.giveUp(3), 1);
        due.is("the other goes on", x.outcome(4), 4);
        due.is("shared, as there is another", x.handle(4, 3), 1);
    }

    private static void onlyTheBreakingGrantWakes(Due due) {
        ShareServer x = new ShareServer();
        due.is("a", Due.opened(x, 0, 0, 0, Due.NEW_FILE, 2), 1);
        due.is("b", Due.opened(x, 0, 0, 1, Due.NEW_FILE, 2), 2);
        due.is("c", Due.opened(x, 0, 0, 2, Due.NEW_FILE, 1), 3);
        due.is("d", Due.opened(x, 0, 0, 3, Due.NEW_FILE, 0), 4);
        due.is("e", Due.opened(x, 0, 0, 4, Due.NEW_FILE, 2), 5);
        due.is("waits for a", Due.opened(x, 1, 0, 0, Due.ALL, 2), WAITING);
        due.is("a moves away", x.move(1, 0, 9), 0);
        due.is("b, alone, gives up", x.giveUp(2), 1);
        due.is("still waits", x.outcome(6), WAITING);
        due.is("c, shared, gives up", x.giveUp(3), 0);
        due.is("still waits", x.outcome(6), WAITING);
        due.is("d, none, is closed", x.close(4), 4);
        due.is("still waits", x.outcome(6), WAITING);
        due.is("e, alone, is closed", x.close(5), 3);
        due.is("still waits", x.outcome(6), WAITING);
        due.is("a's grant is BREAKING", x.handle(1, 3), 3);
        due.is("a is closed", x.close(1), 2);
        due.is("tried again: no node there any more", x.outcome(6), ShareServer.NOWHERE);
    }

    private static void byRisingNumber(Due due) {
        ShareServer x = new ShareServer();
        x.open(0, 0, 0, Due.NEW_FILE, 2);
        due.is("second", Due.opened(x, 1, 0, 0, Due.WRITE | Due.SHARE_READ, 0), WAITING);
        due.is("third", Due.opened(x, 2, 0, 0, Due.READ | Due.SHARE_READ, 0), WAITING);
        due.is("fourth", Due.opened(x, 3, 0, 0, Due.READ | Due.SHARE_ALL, 0), WAITING);
        due.is("they wait", x.count(2), 3);
        due.is("close", x.close(1), 2);
        due.is("the second is first", x.outcome(2), 2);
        due.is("the third clashes with it", x.outcome(3), ShareServer.SHARING);
        due.is("the fourth goes on", x.outcome(4), 3);
        due.is("its client", x.handle(2, 4), 1);
        due.is("its access", x.handle(2, 1), 2);
        due.is("none waits", x.count(2), 0);
    }

    private static void eachJustOnce(Due due) {
        ShareServer x = new ShareServer();
        x.open(0, 0, 0, Due.NEW_FILE, 2);
        due.is("second", Due.opened(x, 1, 0, 0, Due.ALL, 2), WAITING);
        due.is("third", Due.opened(x, 2, 0, 0, Due.ALL, 2), WAITING);
        due.is("fourth", Due.opened(x, 3, 0, 0, Due.ALL, 2), WAITING);
        due.is("the first is closed", x.close(1), 1);
        due.is("the second is alone", x.outcome(2), 2);
        due.is("and breaking at once", x.handle(2, 3), 3);
        due.is("two wait on", x.count(2), 2);
        due.is("the second is closed", x.close(2), 1);
        due.is("the third is alone", x.outcome(3), 3);
        due.is("the fourth waits on", x.outcome(4), WAITING);
        due.is("the third gives up", x.giveUp(3), 1);
        due.is("the fourth goes on", x.outcome(4), 4);
        due.counts("at the end", x, 1, 2, 0, 1, 0, 4, 4);
    }

    private static void allOfThemAreTried(Due due) {
        ShareServer x = new ShareServer();
        due.is("a", Due.opened(x, 0, 0, 0, Due.NEW_FILE, 2), 1);
        due.is("b", Due.opened(x, 0, 0, 1, Due.NEW_FILE, 2), 2);
        due.is("waits for b", Due.opened(x, 1, 0, 1, Due.ALL, 0), WAITING);
        due.is("waits for a", Due.opened(x, 1, 0, 0, Due.ALL, 0), WAITING);
        due.is("b moves away", x.move(2, 0, 5), 0);
        due.is("a is closed", x.close(1), 2);
        due.is("the one for a goes on", x.outcome(4), 3);
        due.is("the one for b is tried too", x.outcome(3), ShareServer.NOWHERE);
        due.is("b's grant stays BREAKING", x.handle(2, 3), 3);
    }

    private static void theTreeHasChanged(Due due) {
        ShareServer x = new ShareServer();
        due.is("a directory", Due.opened(x, 0, 0, 0, Due.NEW_FOLDER, 0), 1);
        due.is("a file in it", Due.opened(x, 0, 1, 0, Due.NEW_FILE | Due.REMOVES, 2), 2);
        due.is("waits, would make it", Due.opened(x, 1, 1, 0, Due.NEW_FILE, 2), WAITING);
        due.is("waits, would not make it", Due.opened(x, 2, 1, 0, Due.ALL, 2), WAITING);
        due.is("the file is removed and made anew", x.close(2), 2);
        due.is("by the one that waited", x.outcome(3), 3);
        due.is("a new node", x.handle(3, 0), 3);
        due.is("alone, and breaking for the other", x.handle(3, 3), 3);
        due.is("the other waits for the new one", x.outcome(4), WAITING);
        due.is("changes", x.count(3), 4);
        due.is("the old node is gone", x.node(2, 0), REFUSED);
        due.is("the new file moves", x.move(3, 0, 7), 0);
        due.is("the directory is DOOMED", x.doom(1, true), 0);
        due.is("and removed", x.close(1), 1);
        due.is("the file is closed", x.close(3), 0);
        due.is("the directory is not there any more", x.outcome(4), ShareServer.NOWHERE);
    }

    private static void triedAgainIsTheLastThing(Due due) {
        ShareServer x = new ShareServer();
        due.is("eleven others", open(x, 11), 11);
        due.is("the twelfth, alone", Due.opened(x, 0, 0, 0, Due.NEW_FILE, 2), 12);
        due.is("its lock", x.lock(12, 0, 32, true), 1);
        due.is("waits", Due.opened(x, 1, 0, 0, Due.ALL, 2), WAITING);
        due.is("close answers with the new one open", x.close(12), 12);
        due.is("it found room", x.outcome(13), 13);
        due.is("and is alone", x.handle(13, 3), 2);
        due.is("the locks are gone", x.node(2, 5), 0);
    }

    private static int open(ShareServer x, int n) {
        int last = 0;
        for (int i = 0; i < n; i++) {
            last = Due.opened(x, 0, 0, 15, Due.NEW_FILE, 0);
        }
        return last;
    }

    private static void outcomesOfTheSecondTry(Due due) {
        ShareServer x = new ShareServer();
        due.is("a file, all by itself", Due.opened(x, 0, 0, 0, Due.READ | Due.DELETE | Due.MAKE, 2), 1);
        due.is("waits", Due.opened(x, 1, 0, 0, Due.ALL, 0), WAITING);
        due.is("given up", x.giveUp(1), 1);
        due.is("SHARING", x.outcome(2), ShareServer.SHARING);
        due.is("b", Due.opened(x, 0, 0, 1, Due.NEW_FILE, 2), 2);
        due.is("waits for b", Due.opened(x, 1, 0, 1, Due.ALL, 0), WAITING);
        due.is("b moves away", x.move(2, 0, 2), 0);
        due.is("a directory takes its place", Due.opened(x, 0, 0, 1, Due.NEW_FOLDER, 0), 3);
        due.is("b gives up", x.giveUp(2), 1);
        due.is("KIND", x.outcome(4), ShareServer.KIND);
        due.is("a directory", Due.opened(x, 0, 0, 3, Due.NEW_FOLDER, 0), 4);
        due.is("a file in it", Due.opened(x, 0, 4, 0, Due.NEW_FILE, 2), 5);
        due.is("waits for it", Due.opened(x, 0, 4, 0, Due.NEW_FILE, 0), WAITING);
        due.is("it moves away", x.move(5, 0, 4), 0);
        due.is("the directory is DOOMED", x.doom(4, true), 0);
        due.is("it is closed", x.close(5), 4);
        due.is("DOOM", x.outcome(8), ShareServer.DOOM);
    }
}
