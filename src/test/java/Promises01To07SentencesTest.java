/** Promises 1 to 7: each sentence that names an edge, at the last value that is allowed and at the first that is not. */
public final class Promises01To07SentencesTest {
    private static final int REFUSED = ShareServer.REFUSED;
    private static final int NOWHERE = ShareServer.NOWHERE;
    private static final int WAITING = ShareServer.WAITING;
    private static final int LOST = ShareServer.LOST;

    public static void main(String[] args) {
        Due due = new Due();
        promise1AllIsEmpty(due);
        promise2Client(due);
        promise2Directory(due);
        promise2Name(due);
        promise2Mode(due);
        promise2SomeAccess(due);
        promise2RemovesOnlyWithDelete(due);
        promise2Wish(due);
        promise2AnswersTheNumber(due);
        promise3NoSuchRequest(due);
        promise3EveryOutcome(due);
        promise4OnlyWaiting(due);
        promise4Lost(due);
        promise5OneTwoOrThree(due);
        promise5TriedAgain(due);
        promise6HowManyAreOpen(due);
        promise6TriedAgain(due);
        promise7NeedsDelete(due);
        promise7DirectoryWithNodes(due);
        promise7OnAndOff(due);
        due.end();
    }

    private static void promise1AllIsEmpty(Due due) {
        due.sentence("Promise 1", "makes an object in the state that the terms give");
        ShareServer x = new ShareServer();
        due.counts("new", x, 0, 0, 0, 0, 0, 0, 0);
        due.is("no node but the root", x.node(1, 0), REFUSED);
        due.is("no node in the root", x.node(0, 6), 0);
        due.is("the root is not DOOMED", x.node(0, 3), 0);
        due.is("no handle", x.handle(1, 0), REFUSED);
        due.is("no request", x.outcome(1), REFUSED);
        due.is("no read yet", x.value(), 0);
        due.is("the first request", x.open(3, 0, 15, Due.NEW_FILE, 2), 1);
        due.is("the first handle", x.outcome(1), 1);
        due.is("the first node", x.handle(1, 0), 1);
    }

    private static void promise2Client(Due due) {
        due.sentence("Promise 2", "A request by the client 0 .. 3");
        ShareServer x = new ShareServer();
        for (int client = 0; client <= 3; client++) {
            due.is("client " + client, x.open(client, 0, 0, Due.NEW_FILE, 0), client + 1);
            due.is("told", x.handle(client + 1, 4), client);
        }
        due.is("client -1", x.open(-1, 0, 0, Due.NEW_FILE, 0), REFUSED);
        due.is("client 4", x.open(4, 0, 0, Due.NEW_FILE, 0), REFUSED);
        for (int wild : Due.WILD) {
            due.is("client " + wild, x.open(wild, 0, 0, Due.NEW_FILE, 0), REFUSED);
        }
        due.counts("no request of these", x, 1, 4, 0, 1, 0, 4, 4);
    }

    private static void promise2Directory(Due due) {
        due.sentence("Promise 2", "for a directory's number 0 .. 24");
        ShareServer x = new ShareServer();
        due.is("directory 0", Due.opened(x, 0, 0, 0, Due.NEW_FILE, 0), 1);
        for (int directory = 1; directory <= 24; directory++) {
            due.is("directory " + directory, x.open(0, directory, 0, Due.NEW_FILE, 0), directory + 1);
            due.is("is not there", x.outcome(directory + 1), NOWHERE);
        }
        due.is("directory -1", x.open(0, -1, 0, Due.NEW_FILE, 0), REFUSED);
        due.is("directory 25", x.open(0, 25, 0, Due.NEW_FILE, 0), REFUSED);
        due.is("directory -3, the root's own", x.open(0, NOWHERE, 0, Due.NEW_FILE, 0), REFUSED);
        for (int wild : Due.WILD) {
            due.is("directory " + wild, x.open(0, wild, 0, Due.NEW_FILE, 0), REFUSED);
        }
        due.is("requests", x.count(5), 25);
        ShareServer y = new ShareServer();
        for (int i = 1; i <= 24; i++) {
            due.is("deeper", Due.opened(y, 0, i - 1, 15, Due.NEW_FOLDER, 0), i);
            due.is("closed", y.close(i), 0);
        }
        due.is("24, when it is there", Due.opened(y, 0, 24, 0, Due.ALL, 0), NOWHERE);
        due.is("24, when it is there, FULL", Due.opened(y, 0, 24, 0, Due.NEW_FILE, 0), ShareServer.FULL);
    }

    private static void promise2Name(Due due) {
        due.sentence("Promise 2", "and a name 0 .. 15");
        ShareServer x = new ShareServer();
        for (int name = 0; name <= 15; name++) {
            due.is("name " + name, x.open(0, 0, name, Due.NEW_FILE, 0), name + 1);
            due.is("closed", x.close(name + 1), 0);
            due.is("it is there", x.find(0, name), name + 1);
        }
        due.is("name -1", x.open(0, 0, -1, Due.NEW_FILE, 0), REFUSED);
        due.is("name 16", x.open(0, 0, 16, Due.NEW_FILE, 0), REFUSED);
        for (int wild : Due.WILD) {
            due.is("name " + wild, x.open(0, 0, wild, Due.NEW_FILE, 0), REFUSED);
        }
        due.counts("no request of these", x, 16, 0, 0, 16, 12, 16, 16);
    }

    private static void promise2Mode(Due due) {
        due.sentence("Promise 2", "mode 0 .. 1023");
        for (int mode = 1020; mode <= 1030; mode++) {
            boolean fine = mode <= 1023 && mode % 8 >= 4;
            due.is("mode " + mode, new ShareServer().open(0, 0, 0, mode, 0), fine ? 1 : REFUSED);
        }
        ShareServer x = new ShareServer();
        due.is("mode 1023", Due.opened(x, 0, 0, 0, 1023, 0), 1);
        due.is("mode 1024 and what makes a file", x.open(0, 0, 1, 1024 + Due.NEW_FILE, 0), REFUSED);
        due.is("mode 2048 and what makes a file", x.open(0, 0, 1, 2048 + Due.NEW_FILE, 0), REFUSED);
        due.is("mode -1, which has every part", x.open(0, 0, 1, -1, 0), REFUSED);
        due.is("the lowest int and what makes a file", x.open(0, 0, 1, Integer.MIN_VALUE + Due.NEW_FILE, 0), REFUSED);
        due.is("65536 and what makes a file", x.open(0, 0, 1, 65536 + Due.NEW_FILE, 0), REFUSED);
        for (int wild : Due.WILD) {
            due.is("mode " + wild, x.open(0, 0, 1, wild, 0), REFUSED);
        }
        due.is("requests", x.count(5), 1);
        due.is("no file", x.find(0, 1), NOWHERE);
    }

    private static void promise2SomeAccess(Due due) {
        due.sentence("Promise 2", "with some access");
        ShareServer x = new ShareServer();
        due.is("mode 0", x.open(0, 0, 0, 0, 0), REFUSED);
        for (int part = 8; part <= 256; part *= 2) {
            due.is("only " + part, x.open(0, 0, 0, part, 0), REFUSED);
        }
        due.is("all but access", x.open(0, 0, 0, 511 - 7, 0), REFUSED);
        due.is("no request", x.count(5), 0);
        due.is("only READ", x.open(0, 0, 0, 1, 0), 1);
        due.is("only WRITE", x.open(0, 0, 0, 2, 0), 2);
        due.is("only DELETE", x.open(0, 0, 0, 4, 0), 3);
    }

    private static void promise2RemovesOnlyWithDelete(Due due) {
        due.sentence("Promise 2", "REMOVES only with DELETE (else REFUSED)");
        for (int access = 0; access <= 7; access++) {
            ShareServer x = new ShareServer();
            int mode = access | Due.SHARE_ALL | Due.MAKE | Due.REMOVES;
            due.is("access " + access, x.open(0, 0, 0, mode, 0), access >= 4 ? 1 : REFUSED);
            due.is("made", x.find(0, 0), access >= 4 ? 1 : NOWHERE);
        }
        due.is("REMOVES alone", new ShareServer().open(0, 0, 0, Due.REMOVES, 0), REFUSED);
    }

    private static void promise2Wish(Due due) {
        due.sentence("Promise 2", "wish 0 .. 2");
        for (int wish = 0; wish <= 2; wish++) {
            ShareServer x = new ShareServer();
            due.is("wish " + wish, x.open(0, 0, 0, Due.NEW_FILE, wish), 1);
            due.is("its GRANT", x.handle(1, 3), wish);
        }
        ShareServer x = new ShareServer();
        due.is("wish -1", x.open(0, 0, 0, Due.NEW_FILE, -1), REFUSED);
        due.is("wish 3", x.open(0, 0, 0, Due.NEW_FILE, 3), REFUSED);
        for (int wild : Due.WILD) {
            due.is("wish " + wild, x.open(0, 0, 0, Due.NEW_FILE, wild), REFUSED);
        }
        due.is("on a directory too", x.open(0, 0, 0, Due.NEW_FOLDER, 3), REFUSED);
        due.counts("no request of these", x, 0, 0, 0, 0, 0, 0, 0);
    }

    private static void promise2AnswersTheNumber(Due due) {
        due.sentence("Promise 2", "Answers the request's number [whatever its outcome is]");
        ShareServer x = new ShareServer();
        due.is("a handle", x.open(0, 0, 0, Due.DELETE | Due.MAKE, 2), 1);
        due.is("NOWHERE", x.open(0, 0, 1, Due.ALL, 0), 2);
        due.is("TAKEN", x.open(0, 0, 0, Due.NEW_FILE | Due.FRESH, 0), 3);
        due.is("KIND", x.open(0, 0, 0, Due.NEW_FOLDER, 0), 4);
        due.is("WAITING", x.open(0, 0, 0, Due.ALL, 0), 5);
        due.is("given up", x.giveUp(1), 1);
        due.is("SHARING", x.open(0, 0, 0, Due.ALL, 0), 6);
        due.is("doom", x.doom(1, true), 0);
        due.is("DOOM", x.open(0, 0, 0, Due.ALL, 0), 7);
        for (int i = 8; i <= 18; i++) {
            due.is("handles", x.open(0, 0, i - 7, Due.NEW_FILE, 0), i);
        }
        due.is("FULL", x.open(0, 0, 1, Due.NEW_FILE, 0), 19);
    }

    private static void promise3NoSuchRequest(Due due) {
        due.sentence("Promise 3", "REFUSED if there is no such request");
        ShareServer x = new ShareServer();
        due.is("1, in a new object", x.outcome(1), REFUSED);
        due.is("0, in a new object", x.outcome(0), REFUSED);
        x.open(0, 0, 0, Due.NEW_FILE, 0);
        x.open(0, 0, 0, Due.ALL, 0);
        due.is("0", x.outcome(0), REFUSED);
        due.is("the first", x.outcome(1), 1);
        due.is("the last", x.outcome(2), 2);
        due.is("the one after it", x.outcome(3), REFUSED);
        due.is("a refused open", x.open(0, 0, 0, 0, 0), REFUSED);
        due.is("is no request", x.outcome(3), REFUSED);
        due.is("512", x.outcome(512), REFUSED);
        due.is("513", x.outcome(513), REFUSED);
        for (int wild : Due.WILD) {
            due.is("outcome " + wild, x.outcome(wild), REFUSED);
        }
    }

    private static void promise3EveryOutcome(Due due) {
        due.sentence("Promise 3", "The outcome of a request: the handle's number, WAITING, or a code");
        ShareServer x = new ShareServer();
        x.open(0, 0, 0, Due.DELETE | Due.MAKE, 2);
        x.open(0, 0, 1, Due.ALL, 0);
        x.open(0, 0, 0, Due.NEW_FILE | Due.FRESH, 0);
        x.open(0, 0, 0, Due.OLD_FOLDER, 0);
        x.open(0, 0, 0, Due.ALL, 0);
        x.open(0, 0, 0, Due.ALL, 0);
        due.is("the handle's number", x.outcome(1), 1);
        due.is("NOWHERE", x.outcome(2), NOWHERE);
        due.is("TAKEN", x.outcome(3), ShareServer.TAKEN);
        due.is("KIND", x.outcome(4), ShareServer.KIND);
        due.is("WAITING", x.outcome(5), WAITING);
        due.is("taken back", x.cancel(6), 0);
        due.is("LOST", x.outcome(6), LOST);
        due.is("given up", x.giveUp(1), 1);
        due.is("SHARING", x.outcome(5), ShareServer.SHARING);
        x.doom(1, true);
        x.open(0, 0, 0, Due.ALL, 0);
        due.is("DOOM", x.outcome(7), ShareServer.DOOM);
        due.is("closed", x.close(1), 0);
        due.is("the handle's number, when it is closed", x.outcome(1), 1);
        due.is("asking again", x.outcome(5), ShareServer.SHARING);
    }

    private static void promise4OnlyWaiting(Due due) {
        due.sentence("Promise 4", "Takes back a WAITING request (else REFUSED)");
        ShareServer x = new ShareServer();
        due.is("1, in a new object", x.cancel(1), REFUSED);
        x.open(0, 0, 0, Due.DELETE | Due.MAKE, 2);
        x.open(0, 0, 1, Due.ALL, 0);
        x.open(0, 0, 0, Due.NEW_FILE | Due.FRESH, 0);
        x.open(0, 0, 0, Due.OLD_FOLDER, 0);
        x.open(0, 0, 0, Due.ALL, 0);
        x.giveUp(1);
        x.doom(1, true);
        x.open(0, 0, 0, Due.ALL, 0);
        int[] outcomes = {1, NOWHERE, ShareServer.TAKEN, ShareServer.KIND, ShareServer.SHARING, ShareServer.DOOM};
        for (int request = 1; request <= 6; request++) {
            due.is("cancel " + request, x.cancel(request), REFUSED);
            due.is("its outcome stays", x.outcome(request), outcomes[request - 1]);
        }
        due.is("0", x.cancel(0), REFUSED);
        due.is("the one after the last", x.cancel(7), REFUSED);
        for (int wild : Due.WILD) {
            due.is("cancel " + wild, x.cancel(wild), REFUSED);
        }
        due.is("the handle is OPEN", x.handle(1, 0), 1);
    }

    private static void promise4Lost(Due due) {
        due.sentence("Promise 4", "its outcome is LOST. 0");
        ShareServer x = new ShareServer();
        x.open(0, 0, 0, Due.NEW_FILE, 2);
        x.open(0, 0, 0, Due.ALL, 0);
        x.open(0, 0, 0, Due.ALL, 0);
        due.is("the first that waits", x.cancel(2), 0);
        due.is("LOST", x.outcome(2), LOST);
        due.is("the other waits on", x.outcome(3), WAITING);
        due.is("one waits", x.count(2), 1);
        due.is("a second time", x.cancel(2), REFUSED);
        due.is("the last that waits", x.cancel(3), 0);
        due.is("none waits", x.count(2), 0);
        due.is("the grant stays BREAKING", x.handle(1, 3), 3);
        due.is("a new one waits", Due.opened(x, 0, 0, 0, Due.ALL, 0), WAITING);
        x.crash();
        due.is("LOST by a crash", x.cancel(4), REFUSED);
    }

    private static void promise5OneTwoOrThree(Due due) {
        due.sentence("Promise 5", "gives up its GRANT (1, 2 or 3, else REFUSED): 1 becomes 0, the others become 1");
        ShareServer x = new ShareServer();
        x.open(0, 0, 0, Due.NEW_FILE, 0);
        x.open(0, 0, 1, Due.NEW_FILE, 1);
        x.open(0, 0, 2, Due.NEW_FILE, 2);
        x.open(0, 0, 3, Due.NEW_FILE, 2);
        x.open(0, 0, 4, Due.NEW_FOLDER, 2);
        x.open(1, 0, 3, Due.ALL, 0);
        due.is("0", x.giveUp(1), REFUSED);
        due.is("stays 0", x.handle(1, 3), 0);
        due.is("a directory", x.giveUp(5), REFUSED);
        due.is("1", x.giveUp(2), 0);
        due.is("is 0", x.handle(2, 3), 0);
        due.is("1, a second time", x.giveUp(2), REFUSED);
        due.is("2", x.giveUp(3), 1);
        due.is("is 1", x.handle(3, 3), 1);
        due.is("2, a second time", x.giveUp(3), 0);
        due.is("2, a third time", x.giveUp(3), REFUSED);
        due.is("3 before", x.handle(4, 3), 3);
        due.is("3", x.giveUp(4), 1);
        due.is("is 1", x.handle(4, 3), 1);
        due.is("3, a second time", x.giveUp(4), 0);
        due.is("3, a third time", x.giveUp(4), REFUSED);
        due.is("others' stay", x.handle(6, 3), 0);
    }

    private static void promise5TriedAgain(Due due) {
        due.sentence("Promise 5", "(With 3 before, WAITING requests are TRIED AGAIN.)");
        ShareServer x = new ShareServer();
        x.open(0, 0, 0, Due.NEW_FILE, 2);
        x.open(1, 0, 0, Due.ALL, 2);
        x.open(2, 0, 0, Due.ALL, 1);
        x.open(3, 0, 0, Due.ALL, 0);
        due.is("the GRANT that it has now", x.giveUp(1), 1);
        due.is("wish 2", x.handle(2, 3), 1);
        due.is("wish 1", x.handle(3, 3), 1);
        due.is("wish 0", x.handle(4, 3), 0);
        due.is("none waits", x.count(2), 0);
        due.is("clients", x.handle(4, 4), 3);
    }

    private static void promise6HowManyAreOpen(Due due) {
        due.sentence("Promise 6", "CLOSES the handle [..] How many handles are OPEN");
        ShareServer x = new ShareServer();
        for (int i = 1; i <= 12; i++) {
            x.open(0, 0, 0, Due.NEW_FILE, 0);
        }
        due.is("the last of twelve", x.close(12), 11);
        due.is("the first", x.close(1), 10);
        for (int i = 2; i <= 11; i++) {
            due.is("handle " + i, x.close(i), 11 - i);
            due.is("a second time", x.close(i), REFUSED);
        }
        due.is("none is OPEN", x.count(1), 0);
        due.is("none is left to close", x.close(12), REFUSED);
    }

    private static void promise6TriedAgain(Due due) {
        due.sentence("Promise 6", "(If its GRANT was 3, WAITING requests are TRIED AGAIN.)");
        ShareServer x = new ShareServer();
        x.open(0, 0, 0, Due.NEW_FILE, 2);
        for (int i = 1; i <= 13; i++) {
            due.is("waits", Due.opened(x, 1, 0, 0, Due.ALL, 1), WAITING);
        }
        due.is("twelve of them are OPEN", x.close(1), 12);
        due.is("the first", x.outcome(2), 2);
        due.is("the twelfth", x.outcome(13), 13);
        due.is("no room for the thirteenth", x.outcome(14), ShareServer.FULL);
    }

    private static void promise7NeedsDelete(Due due) {
        due.sentence("Promise 7", "The handle, with the access DELETE (else REFUSED)");
        for (int access = 1; access <= 7; access++) {
            ShareServer x = new ShareServer();
            x.open(0, 0, 0, access | Due.SHARE_ALL | Due.MAKE, 0);
            due.is("access " + access, x.doom(1, true), access >= 4 ? 0 : REFUSED);
            due.is("DOOMED", x.node(1, 3), access >= 4 ? 1 : 0);
            x.open(0, 0, 1, Due.NEW_FILE, 0);
            due.is("off, access " + access, x.doom(1, false), access >= 4 ? 0 : REFUSED);
            due.is("not DOOMED", x.node(1, 3), 0);
        }
        ShareServer x = new ShareServer();
        x.open(0, 0, 0, Due.NEW_FILE, 0);
        x.open(0, 0, 0, Due.READ | Due.SHARE_ALL, 0);
        x.doom(1, true);
        due.is("off by one without DELETE", x.doom(2, false), REFUSED);
        due.is("DOOMED", x.node(1, 3), 1);
    }

    private static void promise7DirectoryWithNodes(Due due) {
        due.sentence("Promise 7", "a directory with nodes in it, or the root, can't become DOOMED: REFUSED");
        ShareServer x = new ShareServer();
        x.open(0, 0, 0, Due.NEW_FOLDER, 0);
        due.is("without nodes", x.doom(1, true), 0);
        due.is("not any more", x.doom(1, false), 0);
        x.open(0, 1, 15, Due.NEW_FILE, 0);
        due.is("with one node", x.doom(1, true), REFUSED);
        due.is("not DOOMED", x.node(1, 3), 0);
        due.is("off with one node", x.doom(1, false), 0);
        x.open(0, 1, 0, Due.NEW_FOLDER, 0);
        due.is("with two nodes", x.doom(1, true), REFUSED);
        x.doom(2, true);
        x.close(2);
        due.is("with one again, a directory", x.doom(1, true), REFUSED);
        x.doom(3, true);
        due.is("with one that is DOOMED", x.doom(1, true), REFUSED);
        due.is("DOOMED is only the inner one", x.node(1, 3), 0);
        x.close(3);
        due.is("without nodes again", x.doom(1, true), 0);
        due.is("DOOMED", x.node(1, 3), 1);
        due.is("no handle can be of the root: it has no place", Due.opened(x, 0, 0, 0, Due.ALL, 0), ShareServer.KIND);
    }

    private static void promise7OnAndOff(Due due) {
        due.sentence("Promise 7", "makes its node DOOMED or not any more [..] 0");
        for (int folder = 0; folder <= Due.FOLDER; folder += Due.FOLDER) {
            ShareServer x = new ShareServer();
            x.open(0, 0, 0, Due.NEW_FILE | folder, 0);
            due.is("off at first", x.doom(1, false), 0);
            due.is("not DOOMED", x.node(1, 3), 0);
            due.is("on", x.doom(1, true), 0);
            due.is("on again", x.doom(1, true), 0);
            due.is("DOOMED", x.node(1, 3), 1);
            due.is("off", x.doom(1, false), 0);
            due.is("off again", x.doom(1, false), 0);
            due.is("not DOOMED", x.node(1, 3), 0);
            due.is("closed", x.close(1), 0);
            due.is("it stays", x.find(0, 0), 1);
        }
    }
}
