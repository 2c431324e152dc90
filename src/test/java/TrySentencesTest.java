/** The terms: how a REQUEST is TRIED, step by step, and when it is TRIED AGAIN; each sentence, and the order of the steps. */
public final class TrySentencesTest {
    private static final int FULL = ShareServer.FULL;
    private static final int NOWHERE = ShareServer.NOWHERE;
    private static final int TAKEN = ShareServer.TAKEN;
    private static final int KIND = ShareServer.KIND;
    private static final int SHARING = ShareServer.SHARING;
    private static final int DOOM = ShareServer.DOOM;
    private static final int WAITING = ShareServer.WAITING;

    public static void main(String[] args) {
        Due due = new Due();
        requestsAreNumberedAsMade(due);
        step1NotThereOrAFile(due);
        step1NotThereAnyMore(due);
        step2WithoutMake(due);
        step2DoomedDirectory(due);
        step2TwentyFourNumbers(due);
        step2NumbersAreGivenBackByACrash(due);
        step2TwelveHandles(due);
        step2FileOrDirectory(due);
        step2GoesOnWith6(due);
        step3Taken(due);
        step3Kind(due);
        step4BreaksAGrant(due);
        step4ComesBefore5(due);
        step5Doomed(due);
        step5Sharing(due);
        step5TwelveHandles(due);
        step6ItsNumber(due);
        step6Grant(due);
        againByRisingNumber(due);
        againEachJustOnce(due);
        againWhenGrant3IsClosed(due);
        againWhenGrant3IsGivenUp(due);
        againOnlyThen(due);
        againAsTheLastThing(due);
        againWithNoneWaiting(due);
        due.end();
    }

    /** Opens that many handles on files of their own, from the name given on. */
    private static void fill(ShareServer x, int handles, int name) {
        for (int i = 0; i < handles; i++) {
            x.open(0, 0, name + i, Due.NEW_FILE, 0);
        }
    }

    /** Gives node numbers until that many are given, in the root and the directory 1; the handles are closed. */
    private static void give(ShareServer x, int numbers) {
        for (int i = x.count(0) + 1; i <= numbers; i++) {
            int handle = Due.opened(x, 0, i == 1 ? 0 : i % 2, i / 2, i == 1 ? Due.NEW_FOLDER : Due.NEW_FILE, 0);
            x.close(handle);
        }
    }

    private static void requestsAreNumberedAsMade(Due due) {
        due.sentence("Terms, REQUEST", "numbered 1, 2, .. as they are made");
        ShareServer x = new ShareServer();
        due.is("one with a handle", x.open(0, 0, 0, Due.NEW_FILE, 2), 1);
        due.is("a refused call makes none", x.open(0, 0, 0, 0, 0), ShareServer.REFUSED);
        due.is("one that waits", x.open(0, 0, 0, Due.ALL, 0), 2);
        due.is("one that fails", x.open(0, 0, 5, Due.ALL, 0), 3);
        due.is("taken back", x.cancel(2), 0);
        due.is("its number is not given again", x.open(0, 0, 5, Due.ALL, 0), 4);
        x.crash();
        due.is("a crash does not begin anew", x.open(0, 0, 5, Due.ALL, 0), 5);
        due.is("requests", x.count(5), 5);
    }

    private static void step1NotThereOrAFile(Due due) {
        due.sentence("Terms, TRIED 1", "The directory is not there (any more), or is a file: NOWHERE");
        ShareServer x = new ShareServer();
        due.is("1, in a new object", Due.opened(x, 0, 1, 0, Due.NEW_FILE, 0), NOWHERE);
        due.is("24, in a new object", Due.opened(x, 0, 24, 15, Due.NEW_FILE, 0), NOWHERE);
        due.is("a directory", Due.opened(x, 0, 0, 0, Due.NEW_FOLDER, 0), 1);
        due.is("a file", Due.opened(x, 0, 0, 1, Due.NEW_FILE, 0), 2);
        due.is("in the directory", Due.opened(x, 0, 1, 0, Due.NEW_FILE, 0), 3);
        due.is("in the file", Due.opened(x, 0, 2, 0, Due.NEW_FILE, 0), NOWHERE);
        due.is("in the file, a directory", Due.opened(x, 0, 2, 0, Due.NEW_FOLDER, 0), NOWHERE);
        due.is("in the number to be given next", Due.opened(x, 0, 4, 0, Due.NEW_FILE, 0), NOWHERE);
        fill(x, 9, 3);
        due.is("before FULL", Due.opened(x, 0, 2, 0, Due.NEW_FILE, 0), NOWHERE);
        due.is("handles", x.count(1), 12);
    }

    private static void step1NotThereAnyMore(Due due) {
        due.sentence("Terms, TRIED 1", "not there (any more)");
        ShareServer x = new ShareServer();
        due.is("a directory that removes", Due.opened(x, 0, 0, 0, Due.NEW_FOLDER | Due.REMOVES, 0), 1);
        due.is("a file in it", Due.opened(x, 0, 1, 0, Due.NEW_FILE, 2), 2);
        due.is("a request that waits", Due.opened(x, 1, 1, 0, Due.NEW_FILE, 0), WAITING);
        due.is("the file moves away", x.move(2, 0, 1), 0);
        due.is("the directory is removed", x.close(1), 1);
        due.is("a new request", Due.opened(x, 0, 1, 0, Due.NEW_FILE, 0), NOWHERE);
        due.is("given up", x.giveUp(2), 1);
        due.is("the one that waited", x.outcome(3), NOWHERE);
        ShareServer y = new ShareServer();
        due.is("a directory", Due.opened(y, 0, 0, 0, Due.NEW_FOLDER, 0), 1);
        due.is("it is undone", y.crash(), 0);
        due.is("in it", Due.opened(y, 0, 1, 0, Due.NEW_FILE, 0), NOWHERE);
    }

    private static void step2WithoutMake(Due due) {
        due.sentence("Terms, TRIED 2", "No node has that place: the mode has not MAKE: NOWHERE");
        ShareServer x = new ShareServer();
        due.is("a directory", Due.opened(x, 0, 0, 0, Due.NEW_FOLDER, 0), 1);
        due.is("doom", x.doom(1, true), 0);
        due.is("without MAKE", Due.opened(x, 0, 0, 1, Due.ALL, 0), NOWHERE);
        due.is("all other parts", Due.opened(x, 0, 0, 1, 1023 & ~Due.MAKE, 0), NOWHERE);
        due.is("before DOOM", Due.opened(x, 0, 1, 1, Due.ALL, 0), NOWHERE);
        fill(x, 11, 2);
        due.is("before FULL", Due.opened(x, 0, 0, 1, Due.ALL, 0), NOWHERE);
        due.is("nothing is made", x.count(0), 12);
    }

    private static void step2DoomedDirectory(Due due) {
        due.sentence("Terms, TRIED 2", "The directory is DOOMED: DOOM");
        ShareServer x = new ShareServer();
        due.is("a directory", Due.opened(x, 0, 0, 0, Due.NEW_FOLDER, 0), 1);
        due.is("doom", x.doom(1, true), 0);
        due.is("a file", Due.opened(x, 0, 1, 0, Due.NEW_FILE, 0), DOOM);
        due.is("a directory", Due.opened(x, 0, 1, 15, Due.NEW_FOLDER | Due.FRESH, 0), DOOM);
        fill(x, 11, 1);
        due.is("before FULL of handles", Due.opened(x, 0, 1, 0, Due.NEW_FILE, 0), DOOM);
        for (int handle = 2; handle <= 12; handle++) {
            x.close(handle);
        }
        due.is("no doom", x.doom(1, false), 0);
        for (int i = 13; i <= 24; i++) {
            due.is("in it again", Due.opened(x, 0, 1, 0, Due.NEW_FILE | Due.REMOVES, 0), i);
            due.is("removed", x.close(i), 1);
        }
        due.is("numbers given", x.count(0), 24);
        due.is("doom", x.doom(1, true), 0);
        due.is("before FULL of numbers", Due.opened(x, 0, 1, 0, Due.NEW_FILE, 0), DOOM);
        due.is("no doom", x.doom(1, false), 0);
        due.is("FULL", Due.opened(x, 0, 1, 0, Due.NEW_FILE, 0), FULL);
    }

    private static void step2TwentyFourNumbers(Due due) {
        due.sentence("Terms, TRIED 2", "There are 24 node numbers given [..] FULL");
        ShareServer x = new ShareServer();
        give(x, 23);
        due.is("given", x.count(0), 23);
        due.is("the 24th", Due.opened(x, 0, 0, 12, Due.NEW_FILE | Due.REMOVES, 0), 24);
        due.is("a 25th", Due.opened(x, 0, 0, 13, Due.NEW_FILE, 0), FULL);
        due.is("the 24th is removed", x.close(24), 0);
        due.is("a number stays given", Due.opened(x, 0, 0, 13, Due.NEW_FILE, 0), FULL);
        due.is("a directory too", Due.opened(x, 0, 0, 13, Due.NEW_FOLDER, 0), FULL);
        due.is("one that is there", Due.opened(x, 0, 0, 11, Due.NEW_FILE, 0), 25);
        due.is("given", x.count(0), 24);
    }

    private static void step2NumbersAreGivenBackByACrash(Due due) {
        due.sentence("Terms, TRIED 2", "24 node numbers given [and Promise 15, with the numbers of nodes that they made]");
        ShareServer x = new ShareServer();
        give(x, 22);
        due.is("sync", x.sync(), 22);
        give(x, 24);
        due.is("FULL", Due.opened(x, 0, 0, 15, Due.NEW_FILE, 0), FULL);
        due.is("crash", x.crash(), 22);
        due.is("given", x.count(0), 22);
        due.is("the 23rd again", Due.opened(x, 0, 0, 15, Due.NEW_FILE, 0), 25);
        due.is("its number", x.handle(25, 0), 23);
        due.is("the 24th again", Due.opened(x, 0, 0, 14, Due.NEW_FILE, 0), 26);
        due.is("its number", x.handle(26, 0), 24);
        due.is("FULL", Due.opened(x, 0, 0, 13, Due.NEW_FILE, 0), FULL);
    }

    private static void step2TwelveHandles(Due due) {
        due.sentence("Terms, TRIED 2", "or 12 OPEN handles: FULL");
        ShareServer x = new ShareServer();
        fill(x, 11, 0);
        due.is("the 12th", Due.opened(x, 0, 0, 14, Due.NEW_FILE, 0), 12);
        due.is("a 13th", Due.opened(x, 0, 0, 15, Due.NEW_FILE, 0), FULL);
        due.is("no node is made", x.find(0, 15), NOWHERE);
        due.is("no number is given", x.count(0), 12);
        due.is("no change", x.count(3), 12);
        due.is("closed", x.close(3), 11);
        due.is("now there is room", Due.opened(x, 0, 0, 15, Due.NEW_FILE, 0), 13);
        due.is("its node", x.handle(13, 0), 13);
    }

    private static void step2FileOrDirectory(Due due) {
        due.sentence("Terms, TRIED 2", "Else a node is made there, a directory if the mode has FOLDER, else a file");
        ShareServer x = new ShareServer();
        due.is("with FOLDER", Due.opened(x, 0, 0, 0, Due.READ | Due.MAKE | Due.FOLDER, 0), 1);
        due.is("a directory", x.node(1, 2), 1);
        due.is("without", Due.opened(x, 0, 1, 15, Due.READ | Due.MAKE, 0), 2);
        due.is("a file", x.node(2, 2), 0);
        due.is("there", x.find(1, 15), 2);
        due.is("with all parts", Due.opened(x, 0, 0, 1, 1023, 0), 3);
        due.is("a directory", x.node(3, 2), 1);
        due.is("all but FOLDER", Due.opened(x, 0, 0, 2, 1023 & ~Due.FOLDER, 0), 4);
        due.is("a file", x.node(4, 2), 0);
    }

    private static void step2GoesOnWith6(Due due) {
        due.sentence("Terms, TRIED 2", "go on with 6");
        ShareServer x = new ShareServer();
        due.is("FRESH is no bar", Due.opened(x, 0, 0, 0, Due.READ | Due.MAKE | Due.FRESH, 2), 1);
        due.is("alone", x.handle(1, 3), 2);
        due.is("sharing nothing is no bar", Due.opened(x, 0, 0, 1, Due.READ | Due.MAKE, 1), 2);
        due.is("shared", x.handle(2, 3), 1);
    }

    private static void step3Taken(Due due) {
        due.sentence("Terms, TRIED 3", "the mode has MAKE and FRESH: TAKEN");
        ShareServer x = new ShareServer();
        due.is("a file", Due.opened(x, 0, 0, 0, Due.DELETE | Due.MAKE, 2), 1);
        due.is("both", Due.opened(x, 0, 0, 0, Due.NEW_FILE | Due.FRESH, 0), TAKEN);
        due.is("before KIND", Due.opened(x, 0, 0, 0, Due.NEW_FOLDER | Due.FRESH, 0), TAKEN);
        due.is("before WAITING: no grant is broken", x.handle(1, 3), 2);
        due.is("given up", x.giveUp(1), 1);
        due.is("before SHARING", Due.opened(x, 0, 0, 0, Due.NEW_FILE | Due.FRESH, 0), TAKEN);
        due.is("doom", x.doom(1, true), 0);
        due.is("before DOOM", Due.opened(x, 0, 0, 0, Due.NEW_FILE | Due.FRESH, 0), TAKEN);
        fill(x, 11, 1);
        due.is("before FULL", Due.opened(x, 0, 0, 0, Due.NEW_FILE | Due.FRESH, 0), TAKEN);
        due.is("FULL there", Due.opened(x, 0, 0, 1, Due.NEW_FILE, 0), FULL);
        ShareServer y = new ShareServer();
        due.is("a file", Due.opened(y, 0, 0, 0, Due.NEW_FILE, 0), 1);
        due.is("MAKE alone", Due.opened(y, 0, 0, 0, Due.ALL | Due.MAKE, 0), 2);
        due.is("FRESH alone", Due.opened(y, 0, 0, 0, Due.ALL | Due.FRESH, 0), 3);
        due.is("neither", Due.opened(y, 0, 0, 0, Due.ALL, 0), 4);
    }

    private static void step3Kind(Due due) {
        due.sentence("Terms, TRIED 3", "The node is a directory and the mode has not FOLDER, or it is a file and the mode has it: KIND");
        ShareServer x = new ShareServer();
        due.is("a directory", Due.opened(x, 0, 0, 0, Due.DELETE | Due.MAKE | Due.FOLDER, 0), 1);
        due.is("a file", Due.opened(x, 0, 0, 1, Due.DELETE | Due.MAKE, 2), 2);
        due.is("without FOLDER", Due.opened(x, 0, 0, 0, Due.ALL, 0), KIND);
        due.is("without FOLDER, MAKE", Due.opened(x, 0, 0, 0, Due.NEW_FILE, 0), KIND);
        due.is("with FOLDER", Due.opened(x, 0, 0, 1, Due.OLD_FOLDER, 0), KIND);
        due.is("with FOLDER, MAKE", Due.opened(x, 0, 0, 1, Due.NEW_FOLDER, 0), KIND);
        due.is("with FOLDER, FRESH", Due.opened(x, 0, 0, 1, Due.OLD_FOLDER | Due.FRESH, 0), KIND);
        due.is("before WAITING: no grant is broken", x.handle(2, 3), 2);
        due.is("the right kind goes on", Due.opened(x, 0, 0, 0, Due.OLD_FOLDER, 0), SHARING);
        due.is("doom", x.doom(1, true), 0);
        due.is("doom", x.doom(2, true), 0);
        due.is("before DOOM, a directory", Due.opened(x, 0, 0, 0, Due.ALL, 0), KIND);
        due.is("before DOOM, a file", Due.opened(x, 0, 0, 1, Due.OLD_FOLDER, 0), KIND);
        fill(x, 10, 2);
        due.is("before FULL", Due.opened(x, 0, 0, 2, Due.OLD_FOLDER, 0), KIND);
    }

    private static void step4BreaksAGrant(Due due) {
        due.sentence("Terms, TRIED 4", "A handle of the node has the GRANT 2 or 3: if 2, it becomes 3; the outcome is WAITING");
        ShareServer x = new ShareServer();
        due.is("alone", Due.opened(x, 0, 0, 0, Due.NEW_FILE, 2), 1);
        due.is("another node's", Due.opened(x, 0, 0, 1, Due.NEW_FILE, 2), 2);
        due.is("GRANT 2", Due.opened(x, 1, 0, 0, Due.ALL, 0), WAITING);
        due.is("becomes 3", x.handle(1, 3), 3);
        due.is("another node's stays", x.handle(2, 3), 2);
        due.is("GRANT 3", Due.opened(x, 2, 0, 0, Due.ALL, 2), WAITING);
        due.is("stays 3", x.handle(1, 3), 3);
        due.is("the same client waits too", Due.opened(x, 0, 0, 0, Due.ALL, 1), WAITING);
        due.is("requests that wait", x.count(2), 3);
        due.is("GRANT 1", Due.opened(x, 0, 0, 2, Due.NEW_FILE, 1), 3);
        due.is("does not make wait", Due.opened(x, 1, 0, 2, Due.ALL, 0), 4);
        due.is("it stays 1", x.handle(3, 3), 1);
        due.is("GRANT 0", Due.opened(x, 0, 0, 3, Due.NEW_FILE, 0), 5);
        due.is("does not make wait", Due.opened(x, 1, 0, 3, Due.ALL, 2), 6);
        due.is("a directory", Due.opened(x, 0, 0, 4, Due.NEW_FOLDER, 2), 7);
        due.is("does not make wait", Due.opened(x, 1, 0, 4, Due.OLD_FOLDER, 2), 8);
    }

    private static void step4ComesBefore5(Due due) {
        due.sentence("Terms, TRIED 4", "the outcome is WAITING [before DOOM, SHARING and FULL]");
        ShareServer x = new ShareServer();
        due.is("alone, sharing nothing", Due.opened(x, 0, 0, 0, 7 | Due.MAKE, 2), 1);
        due.is("doom", x.doom(1, true), 0);
        fill(x, 11, 1);
        due.is("handles", x.count(1), 12);
        due.is("waits", Due.opened(x, 1, 0, 0, 7, 0), WAITING);
        due.is("BREAKING", x.handle(1, 3), 3);
        due.is("again", Due.opened(x, 1, 0, 0, 7, 0), WAITING);
    }

    private static void step5Doomed(Due due) {
        due.sentence("Terms, TRIED 5", "The node is DOOMED: DOOM");
        for (int folder = 0; folder <= Due.FOLDER; folder += Due.FOLDER) {
            ShareServer x = new ShareServer();
            due.is("made", Due.opened(x, 0, 0, 0, Due.NEW_FILE | folder, 0), 1);
            due.is("not DOOMED", Due.opened(x, 0, 0, 0, Due.ALL | folder, 0), 2);
            due.is("doom", x.doom(2, true), 0);
            due.is("DOOMED", Due.opened(x, 0, 0, 0, Due.ALL | folder, 0), DOOM);
            due.is("DOOMED, with MAKE", Due.opened(x, 0, 0, 0, Due.NEW_FILE | folder, 0), DOOM);
            due.is("before SHARING", Due.opened(x, 0, 0, 0, Due.READ | folder, 0), DOOM);
            fill(x, 10, 1);
            due.is("before FULL", Due.opened(x, 0, 0, 0, Due.ALL | folder, 0), DOOM);
            due.is("no doom", x.doom(2, false), 0);
            due.is("SHARING before FULL", Due.opened(x, 0, 0, 0, Due.READ | folder, 0), SHARING);
            due.is("FULL", Due.opened(x, 0, 0, 0, Due.ALL | folder, 0), FULL);
        }
    }

    private static void step5Sharing(Due due) {
        due.sentence("Terms, TRIED 5", "the access of one has something that is not in the share of the other: SHARING");
        for (int part = 1; part <= 4; part *= 2) {
            int shareOfOthers = (7 & ~part) << 3;
            ShareServer x = new ShareServer();
            due.is("made", Due.opened(x, 0, 0, 0, part | Due.SHARE_ALL | Due.MAKE, 0), 1);
            due.is("all but its access is shared", Due.opened(x, 1, 0, 0, 7 | shareOfOthers, 0), SHARING);
            due.is("just its access is shared", Due.opened(x, 1, 0, 0, 7 | part << 3, 0), 2);
            ShareServer y = new ShareServer();
            due.is("made", Due.opened(y, 0, 0, 0, part | shareOfOthers | Due.MAKE, 0), 1);
            due.is("the access that it does not share", Due.opened(y, 1, 0, 0, part | Due.SHARE_ALL, 0), SHARING);
            due.is("with others", Due.opened(y, 1, 0, 0, 7 | Due.SHARE_ALL, 0), SHARING);
            due.is("all others", Due.opened(y, 1, 0, 0, 7 & ~part | Due.SHARE_ALL, 0), 2);
        }
        ShareServer x = new ShareServer();
        for (int i = 1; i <= 10; i++) {
            due.is("ten that share all", Due.opened(x, 0, 0, 0, Due.READ | Due.SHARE_ALL | Due.MAKE, 0), i);
        }
        due.is("the eleventh shares READ", Due.opened(x, 0, 0, 0, Due.READ | Due.SHARE_READ, 0), 11);
        due.is("the last one clashes", Due.opened(x, 0, 0, 0, Due.ALL, 0), SHARING);
        due.is("closed, it does not", x.close(11), 10);
        due.is("opened", Due.opened(x, 0, 0, 0, Due.ALL, 0), 12);
    }

    private static void step5TwelveHandles(Due due) {
        due.sentence("Terms, TRIED 5", "There are 12 OPEN handles: FULL");
        ShareServer x = new ShareServer();
        fill(x, 11, 0);
        due.is("the 12th", Due.opened(x, 0, 0, 0, Due.ALL, 0), 12);
        due.is("a 13th", Due.opened(x, 0, 0, 0, Due.ALL, 0), FULL);
        due.is("a 13th, with MAKE", Due.opened(x, 0, 0, 5, Due.NEW_FILE, 0), FULL);
        due.is("OPEN", x.count(1), 12);
        due.is("closed", x.close(12), 11);
        due.is("the 12th again", Due.opened(x, 0, 0, 10, Due.ALL, 0), 13);
    }

    private static void step6ItsNumber(Due due) {
        due.sentence("Terms, TRIED 6", "A new handle: its number");
        ShareServer x = new ShareServer();
        due.is("on a new node", Due.opened(x, 3, 0, 0, Due.NEW_FILE, 0), 1);
        due.is("on an old node", Due.opened(x, 2, 0, 0, Due.ALL, 0), 2);
        due.is("closed", x.close(2), 1);
        due.is("no number is given again", Due.opened(x, 1, 0, 0, Due.ALL, 0), 3);
        due.is("closed", x.close(1), 1);
        due.is("closed", x.close(3), 0);
        due.is("alone", Due.opened(x, 0, 0, 0, Due.ALL, 2), 4);
        due.is("waits", Due.opened(x, 1, 0, 0, Due.ALL, 2), WAITING);
        due.is("waits", Due.opened(x, 2, 0, 0, Due.ALL, 2), WAITING);
        due.is("made before these are tried again", Due.opened(x, 3, 0, 1, Due.NEW_FILE, 2), 5);
        due.is("given up", x.giveUp(4), 1);
        due.is("the first that waited", x.outcome(5), 6);
        due.is("the second that waited", x.outcome(6), 7);
        due.is("its client is the request's", x.handle(6, 4), 1);
        due.is("its client is the request's", x.handle(7, 4), 2);
    }

    private static void step6Grant(Due due) {
        due.sentence("Terms, TRIED 6", "on a directory 0; else, with the wish 2 and no other handle of the node, 2; with the wish 1 or 2, 1; else 0");
        for (int wish = 0; wish <= 2; wish++) {
            ShareServer x = new ShareServer();
            due.is("a new directory", Due.opened(x, 0, 0, 0, Due.NEW_FOLDER, wish), 1);
            due.is("wish " + wish + " on it", x.handle(1, 3), 0);
            due.is("an old directory", Due.opened(x, 0, 0, 0, Due.OLD_FOLDER, wish), 2);
            due.is("wish " + wish + " on it", x.handle(2, 3), 0);
            due.is("a new file", Due.opened(x, 0, 0, 1, Due.NEW_FILE, wish), 3);
            due.is("wish " + wish + ", no other handle", x.handle(3, 3), wish);
            due.is("closed", x.close(3), 2);
            due.is("an old file", Due.opened(x, 0, 0, 1, Due.ALL, 0), 4);
            due.is("one other handle", Due.opened(x, 0, 0, 1, Due.ALL, wish), 5);
            due.is("wish " + wish + ", one other handle", x.handle(5, 3), wish == 0 ? 0 : 1);
            due.is("closed", x.close(4), 3);
            due.is("closed", x.close(5), 2);
            due.is("no handle any more", Due.opened(x, 0, 0, 1, Due.ALL, wish), 6);
            due.is("wish " + wish + ", no other OPEN handle", x.handle(6, 3), wish);
        }
    }

    private static void againByRisingNumber(Due due) {
        due.sentence("Terms, TRIED AGAIN", "all of them by rising number");
        ShareServer x = new ShareServer();
        for (int i = 1; i <= 9; i++) {
            due.is("nine others", Due.opened(x, 0, 0, 15, Due.NEW_FILE, 0), i);
        }
        due.is("alone", Due.opened(x, 0, 0, 0, Due.NEW_FILE, 2), 10);
        due.is("alone", Due.opened(x, 0, 0, 1, Due.NEW_FILE, 2), 11);
        for (int request = 12; request <= 17; request++) {
            due.is("waits", Due.opened(x, request % 4, 0, request % 2, Due.ALL, 0), WAITING);
        }
        due.is("the second moves away", x.move(11, 0, 2), 0);
        due.is("the first is closed", x.close(10), 12);
        due.is("12, for the first", x.outcome(12), 12);
        due.is("13, for the second's place", x.outcome(13), NOWHERE);
        due.is("14, for the first", x.outcome(14), 13);
        due.is("15, for the second's place", x.outcome(15), NOWHERE);
        due.is("16, for the first: no room", x.outcome(16), FULL);
        due.is("17, for the second's place", x.outcome(17), NOWHERE);
        due.is("none waits", x.count(2), 0);
    }

    private static void againEachJustOnce(Due due) {
        due.sentence("Terms, TRIED AGAIN", "each just once");
        ShareServer x = new ShareServer();
        due.is("alone", Due.opened(x, 0, 0, 0, Due.NEW_FILE, 2), 1);
        due.is("waits", Due.opened(x, 1, 0, 0, Due.ALL, 0), WAITING);
        due.is("waits", Due.opened(x, 2, 0, 0, Due.ALL, 2), WAITING);
        due.is("another, alone", Due.opened(x, 0, 0, 1, Due.NEW_FILE, 2), 2);
        due.is("waits for the other", Due.opened(x, 3, 0, 1, Due.ALL, 0), WAITING);
        due.is("the first moves away", x.move(1, 0, 5), 0);
        due.is("the other takes its place", x.move(2, 0, 0), 0);
        due.is("the first is closed", x.close(1), 1);
        due.is("tried, waits for the other", x.outcome(2), WAITING);
        due.is("tried, waits for the other", x.outcome(3), WAITING);
        due.is("tried, no node there", x.outcome(5), NOWHERE);
        due.is("two wait", x.count(2), 2);
        due.is("the other is closed", x.close(2), 2);
        due.is("the first of them", x.outcome(2), 3);
        due.is("the second of them", x.outcome(3), 4);
        due.is("shared, beside the first", x.handle(4, 3), 1);
    }

    private static void againWhenGrant3IsClosed(Due due) {
        due.sentence("Terms, TRIED AGAIN", "when a handle that had the GRANT 3 is closed");
        for (int wish = 0; wish <= 3; wish++) {
            ShareServer x = new ShareServer();
            due.is("alone", Due.opened(x, 0, 0, 0, Due.NEW_FILE, 2), 1);
            due.is("waits", Due.opened(x, 0, 0, 0, Due.ALL, 0), WAITING);
            due.is("moves away, so that a try would tell", x.move(1, 0, 9), 0);
            due.is("another", Due.opened(x, 0, 0, 1, Due.NEW_FILE, Math.min(wish, 2)), 2);
            if (wish == 3) {
                due.is("waits", Due.opened(x, 0, 0, 1, Due.ALL, 0), WAITING);
            }
            due.is("its GRANT", x.handle(2, 3), wish);
            due.is("closed", x.close(2), wish == 3 ? 2 : 1);
            due.is("after a close with GRANT " + wish, x.outcome(2), wish == 3 ? NOWHERE : WAITING);
        }
    }

    private static void againWhenGrant3IsGivenUp(Due due) {
        due.sentence("Terms, TRIED AGAIN", "or its GRANT is given up");
        for (int wish = 1; wish <= 3; wish++) {
            ShareServer x = new ShareServer();
            due.is("alone", Due.opened(x, 0, 0, 0, Due.NEW_FILE, 2), 1);
            due.is("waits", Due.opened(x, 0, 0, 0, Due.ALL, 0), WAITING);
            due.is("moves away, so that a try would tell", x.move(1, 0, 9), 0);
            due.is("another", Due.opened(x, 0, 0, 1, Due.NEW_FILE, Math.min(wish, 2)), 2);
            if (wish == 3) {
                due.is("waits", Due.opened(x, 0, 0, 1, Due.ALL, 0), WAITING);
            }
            due.is("its GRANT", x.handle(2, 3), wish);
            due.is("given up", x.giveUp(2), wish == 1 ? 0 : 1);
            due.is("after giving up GRANT " + wish, x.outcome(2), wish == 3 ? NOWHERE : WAITING);
        }
    }

    private static void againOnlyThen(Due due) {
        due.sentence("Terms, TRIED AGAIN", "when a handle that had the GRANT 3 is closed or its GRANT is given up [and by no other call]");
        ShareServer x = new ShareServer();
        due.is("alone", Due.opened(x, 0, 0, 0, Due.NEW_FILE, 2), 1);
        due.is("waits", Due.opened(x, 1, 0, 0, Due.ALL, 0), WAITING);
        due.is("waits", Due.opened(x, 2, 0, 0, Due.ALL, 0), WAITING);
        due.is("moves away, so that a try would tell", x.move(1, 0, 9), 0);
        due.is("after the move", x.outcome(2), WAITING);
        due.is("taken back", x.cancel(3), 0);
        due.is("after a cancel", x.outcome(2), WAITING);
        due.is("another request that waits", Due.opened(x, 2, 0, 9, Due.ALL, 0), WAITING);
        due.is("after it", x.outcome(2), WAITING);
        due.is("another handle", Due.opened(x, 0, 0, 1, Due.NEW_FILE, 2), 2);
        due.is("after an open", x.outcome(2), WAITING);
        due.is("doom", x.doom(1, true), 0);
        due.is("no doom", x.doom(1, false), 0);
        due.is("read", x.read(1, 0), 0);
        due.is("write", x.write(1, 0, 1), 0);
        due.is("lock", x.lock(1, 0, 1, true), 1);
        due.is("unlock", x.unlock(1, 0, 1), 0);
        due.is("sync", x.sync(), 4);
        due.is("after all these", x.outcome(2), WAITING);
        due.is("GRANT 2 given up", x.giveUp(2), 1);
        due.is("GRANT 1 given up", x.giveUp(2), 0);
        due.is("doom", x.doom(2, true), 0);
        due.is("a node is removed", x.close(2), 1);
        due.is("after all these", x.outcome(2), WAITING);
        due.is("GRANT 3 given up", x.giveUp(1), 1);
        due.is("after that", x.outcome(2), NOWHERE);
        due.is("after that", x.outcome(4), 3);
    }

    private static void againAsTheLastThing(Due due) {
        due.sentence("Terms, TRIED AGAIN", "as the last thing that such a call does");
        ShareServer x = new ShareServer();
        fill(x, 11, 1);
        due.is("the 12th, alone, removes", Due.opened(x, 0, 0, 0, Due.NEW_FILE | Due.REMOVES, 2), 12);
        due.is("would make it anew", Due.opened(x, 1, 0, 0, Due.NEW_FILE | Due.FRESH, 2), TAKEN);
        due.is("waits", Due.opened(x, 1, 0, 0, Due.NEW_FILE, 2), WAITING);
        due.is("closed: there is room, the node is removed", x.close(12), 12);
        due.is("made anew", x.outcome(14), 13);
        due.is("another node", x.handle(13, 0), 13);
        due.is("alone", x.handle(13, 3), 2);
        due.is("the place", x.find(0, 0), 13);
        ShareServer y = new ShareServer();
        due.is("alone", Due.opened(y, 0, 0, 0, Due.NEW_FILE, 2), 1);
        due.is("waits", Due.opened(y, 1, 0, 0, Due.ALL, 2), WAITING);
        due.is("given up: the GRANT is 1 when it is tried", y.giveUp(1), 1);
        due.is("it does not wait again", y.outcome(2), 2);
    }

    private static void againWithNoneWaiting(Due due) {
        due.sentence("Terms, TRIED AGAIN", "WAITING requests are TRIED AGAIN [none, or LOST ones, are not]");
        ShareServer x = new ShareServer();
        due.is("alone", Due.opened(x, 0, 0, 0, Due.NEW_FILE, 2), 1);
        due.is("waits", Due.opened(x, 1, 0, 0, Due.ALL, 0), WAITING);
        due.is("fails", Due.opened(x, 1, 0, 5, Due.ALL, 0), NOWHERE);
        due.is("taken back", x.cancel(2), 0);
        due.is("made, so that a try would tell", Due.opened(x, 1, 0, 5, Due.NEW_FILE, 0), 2);
        due.is("given up", x.giveUp(1), 1);
        due.is("the LOST one", x.outcome(2), ShareServer.LOST);
        due.is("the failed one", x.outcome(3), NOWHERE);
        due.is("the one with a handle", x.outcome(1), 1);
        due.is("handles made", x.count(6), 2);
    }
}
