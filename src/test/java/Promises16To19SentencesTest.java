/** Promises 16 to 19: each sentence that names an edge, at the last value that is allowed and at the first that is not. */
public final class Promises16To19SentencesTest {
    private static final int REFUSED = ShareServer.REFUSED;
    private static final int NOWHERE = ShareServer.NOWHERE;

    public static void main(String[] args) {
        Due due = new Due();
        promise16ThePlace(due);
        promise16NowhereIfNone(due);
        promise16NumbersOutOfRange(due);
        promise17NodesThatAreThere(due);
        promise17WhatOutOfRange(due);
        promise17TheRoot(due);
        promise17KindAndDoomed(due);
        promise17HandlesLocksAndNodes(due);
        promise18OpenHandles(due);
        promise18WhatOutOfRange(due);
        promise18EveryValue(due);
        promise19WhatOutOfRange(due);
        promise19NumbersAndHandles(due);
        promise19WaitingAndRequests(due);
        promise19Changes(due);
        due.end();
    }

    private static void promise16ThePlace(Due due) {
        due.sentence("Promise 16", "The node that has the place");
        ShareServer x = new ShareServer();
        for (int i = 1; i <= 24; i++) {
            due.is("made", Due.opened(x, 0, i - 1, i % 16, Due.NEW_FOLDER, 0), i);
            x.close(i);
        }
        for (int i = 1; i <= 24; i++) {
            due.is("in " + (i - 1), x.find(i - 1, i % 16), i);
            due.is("beside it", x.find(i - 1, (i + 1) % 16), NOWHERE);
        }
        due.is("the last directory", x.find(24, 0), NOWHERE);
        due.is("the last directory", x.find(24, 15), NOWHERE);
        due.is("looking changes nothing", x.count(3), 24);
    }

    private static void promise16NowhereIfNone(Due due) {
        due.sentence("Promise 16", "NOWHERE if none");
        ShareServer x = new ShareServer();
        for (int name = 0; name <= 15; name++) {
            due.is("a new object, name " + name, x.find(0, name), NOWHERE);
        }
        due.is("a directory not there", x.find(1, 0), NOWHERE);
        due.is("the last number", x.find(24, 15), NOWHERE);
        x.open(0, 0, 0, Due.NEW_FILE | Due.REMOVES, 0);
        due.is("there", x.find(0, 0), 1);
        due.is("in a file", x.find(1, 0), NOWHERE);
        due.is("moved", x.move(1, 0, 15), 0);
        due.is("where it was", x.find(0, 0), NOWHERE);
        due.is("where it is", x.find(0, 15), 1);
        x.doom(1, true);
        due.is("DOOMED, it is there still", x.find(0, 15), 1);
        x.close(1);
        due.is("removed", x.find(0, 15), NOWHERE);
        x.open(0, 0, 3, Due.NEW_FILE, 0);
        x.crash();
        due.is("undone", x.find(0, 3), NOWHERE);
    }

    private static void promise16NumbersOutOfRange(Due due) {
        due.sentence("Promise 16 and Terms", "with numbers out of range, is REFUSED; this is tested first");
        ShareServer x = new ShareServer();
        x.open(0, 0, 0, Due.NEW_FILE, 0);
        x.open(0, 0, 15, Due.NEW_FILE, 0);
        due.is("name 0", x.find(0, 0), 1);
        due.is("name 15", x.find(0, 15), 2);
        due.is("name -1", x.find(0, -1), REFUSED);
        due.is("name 16", x.find(0, 16), REFUSED);
        due.is("directory 24", x.find(24, 0), NOWHERE);
        due.is("directory 25", x.find(25, 0), REFUSED);
        due.is("directory -1", x.find(-1, 0), REFUSED);
        due.is("what the root has for a place", x.find(NOWHERE, NOWHERE), REFUSED);
        for (int wild : Due.WILD) {
            due.is("directory " + wild, x.find(wild, 0), REFUSED);
            due.is("name " + wild, x.find(0, wild), REFUSED);
            due.is("both " + wild, x.find(wild, wild), REFUSED);
        }
    }

    private static void promise17NodesThatAreThere(Due due) {
        due.sentence("Promise 17", "Of a node that is there [..] else REFUSED");
        ShareServer x = new ShareServer();
        due.is("the root", x.node(0, 2), 1);
        due.is("1, in a new object", x.node(1, 2), REFUSED);
        x.open(0, 0, 0, Due.NEW_FOLDER, 0);
        x.open(0, 0, 1, Due.NEW_FILE | Due.REMOVES, 0);
        due.is("the last that is there", x.node(2, 2), 0);
        due.is("the one after it", x.node(3, 2), REFUSED);
        x.close(2);
        for (int what = -1; what <= 7; what++) {
            due.is("removed, what " + what, x.node(2, what), REFUSED);
            due.is("never made, what " + what, x.node(3, what), REFUSED);
            due.is("24, what " + what, x.node(24, what), REFUSED);
            due.is("25, what " + what, x.node(25, what), REFUSED);
            due.is("-1, what " + what, x.node(-1, what), REFUSED);
        }
        for (int wild : Due.WILD) {
            due.is("node " + wild, x.node(wild, 2), REFUSED);
            due.is("node and what " + wild, x.node(wild, wild), REFUSED);
        }
        x.crash();
        due.is("undone", x.node(1, 2), REFUSED);
        ShareServer y = new ShareServer();
        for (int i = 1; i <= 24; i++) {
            y.open(0, i - 1, 15, Due.NEW_FOLDER, 0);
            y.close(i);
        }
        due.is("24, when it is there", y.node(24, 0), 23);
        due.is("25", y.node(25, 0), REFUSED);
    }

    private static void promise17WhatOutOfRange(Due due) {
        due.sentence("Promise 17", "its directory (0; [..] nodes directly in it (6); else REFUSED");
        ShareServer x = new ShareServer();
        x.open(0, 0, 7, Due.NEW_FOLDER, 0);
        x.open(0, 1, 9, Due.NEW_FILE, 0);
        int[] folder = {0, 7, 1, 0, 1, 0, 1};
        int[] file = {1, 9, 0, 0, 1, 0, 0};
        for (int what = 0; what <= 6; what++) {
            due.is("a directory, what " + what, x.node(1, what), folder[what]);
            due.is("a file, what " + what, x.node(2, what), file[what]);
        }
        for (int node = 0; node <= 2; node++) {
            due.is("node " + node + ", what -1", x.node(node, -1), REFUSED);
            due.is("node " + node + ", what 7", x.node(node, 7), REFUSED);
            for (int wild : Due.WILD) {
                due.is("node " + node + ", what " + wild, x.node(node, wild), REFUSED);
            }
        }
    }

    private static void promise17TheRoot(Due due) {
        due.sentence("Promise 17", "its directory (0; NOWHERE for the root), its name (1; NOWHERE for the root)");
        ShareServer x = new ShareServer();
        due.is("the root's directory", x.node(0, 0), NOWHERE);
        due.is("the root's name", x.node(0, 1), NOWHERE);
        x.open(0, 0, 0, Due.NEW_FILE, 0);
        due.is("a directory 0 is no NOWHERE", x.node(1, 0), 0);
        due.is("a name 0 is no NOWHERE", x.node(1, 1), 0);
        due.is("the root's kind", x.node(0, 2), 1);
        due.is("the root is not DOOMED", x.node(0, 3), 0);
        due.is("the root's handles", x.node(0, 4), 0);
        due.is("the root's locks", x.node(0, 5), 0);
        due.is("nodes in the root", x.node(0, 6), 1);
    }

    private static void promise17KindAndDoomed(Due due) {
        due.sentence("Promise 17", "1 if it is a directory, else 0 (2), 1 if DOOMED, else 0 (3)");
        ShareServer x = new ShareServer();
        x.open(0, 0, 0, Due.NEW_FILE, 0);
        x.open(0, 0, 1, Due.NEW_FOLDER, 0);
        due.is("a file", x.node(1, 2), 0);
        due.is("a directory", x.node(2, 2), 1);
        for (int doomed = 0; doomed <= 3; doomed++) {
            x.doom(1, doomed % 2 == 1);
            x.doom(2, doomed / 2 == 1);
            due.is("a file, DOOMED " + doomed, x.node(1, 3), doomed % 2);
            due.is("a directory, DOOMED " + doomed, x.node(2, 3), doomed / 2);
        }
        due.is("a file still", x.node(1, 2), 0);
        due.is("a directory still", x.node(2, 2), 1);
    }

    private static void promise17HandlesLocksAndNodes(Due due) {
        due.sentence("Promise 17", "its OPEN handles (4), its locks (5), nodes directly in it (6)");
        ShareServer x = new ShareServer();
        for (int i = 1; i <= 12; i++) {
            due.is("handles before", x.node(1, 4), i == 1 ? REFUSED : i - 1);
            x.open(0, 0, 0, Due.NEW_FILE, 0);
        }
        due.is("twelve handles", x.node(1, 4), 12);
        x.open(0, 0, 0, Due.ALL, 0);
        due.is("no more", x.node(1, 4), 12);
        for (int i = 0; i <= 9; i++) {
            due.is("locks", x.node(1, 5), Math.min(i, 8));
            x.lock(1 + i, i, 1, true);
        }
        for (int i = 1; i <= 12; i++) {
            x.close(i);
            due.is("handles", x.node(1, 4), 12 - i);
            due.is("locks", x.node(1, 5), Math.max(0, 8 - i));
        }
        ShareServer y = new ShareServer();
        y.close(Due.opened(y, 0, 0, 0, Due.NEW_FOLDER, 0));
        for (int name = 0; name <= 15; name++) {
            due.is("nodes in it", y.node(1, 6), name);
            y.close(Due.opened(y, 0, 1, name, name == 0 ? Due.NEW_FOLDER : Due.NEW_FILE, 0));
        }
        y.close(Due.opened(y, 0, 2, 0, Due.NEW_FILE, 0));
        due.is("sixteen, only those directly in it", y.node(1, 6), 16);
        due.is("one deeper", y.node(2, 6), 1);
        due.is("only one in the root", y.node(0, 6), 1);
        due.is("none in a file", y.node(3, 6), 0);
    }

    private static void promise18OpenHandles(Due due) {
        due.sentence("Promise 18", "Of an OPEN handle [..] else REFUSED");
        ShareServer x = new ShareServer();
        due.is("1, in a new object", x.handle(1, 0), REFUSED);
        x.open(0, 0, 0, Due.NEW_FILE, 0);
        x.open(0, 0, 0, Due.ALL, 0);
        x.open(0, 0, 0, Due.ALL, 0);
        x.close(2);
        due.is("the first", x.handle(1, 0), 1);
        due.is("the last", x.handle(3, 0), 1);
        for (int what = -1; what <= 5; what++) {
            due.is("0, what " + what, x.handle(0, what), REFUSED);
            due.is("closed, what " + what, x.handle(2, what), REFUSED);
            due.is("not made yet, what " + what, x.handle(4, what), REFUSED);
        }
        for (int wild : Due.WILD) {
            due.is("handle " + wild, x.handle(wild, 0), REFUSED);
            due.is("handle and what " + wild, x.handle(wild, wild), REFUSED);
        }
        x.crash();
        due.is("closed by a crash", x.handle(1, 0), REFUSED);
    }

    private static void promise18WhatOutOfRange(Due due) {
        due.sentence("Promise 18", "its node (0), access (1), share (2), GRANT (3), client (4); else REFUSED");
        ShareServer x = new ShareServer();
        x.open(3, 0, 0, Due.READ | Due.DELETE | Due.SHARE_WRITE | Due.SHARE_DELETE | Due.MAKE, 2);
        int[] want = {1, 5, 6, 2, 3};
        for (int what = 0; what <= 4; what++) {
            due.is("what " + what, x.handle(1, what), want[what]);
        }
        due.is("what -1", x.handle(1, -1), REFUSED);
        due.is("what 5", x.handle(1, 5), REFUSED);
        for (int wild : Due.WILD) {
            due.is("what " + wild, x.handle(1, wild), REFUSED);
        }
    }

    private static void promise18EveryValue(Due due) {
        due.sentence("Promise 18", "its node (0), access (1), share (2), GRANT (3), client (4) [at their first and last values]");
        ShareServer x = new ShareServer();
        for (int i = 1; i <= 23; i++) {
            x.open(0, i - 1, 15, Due.NEW_FOLDER, 0);
            x.close(i);
        }
        x.open(0, 23, 15, Due.READ | Due.MAKE, 0);
        int[] lowest = {24, 1, 0, 0, 0};
        x.open(3, 0, 15, Due.OLD_FOLDER, 2);
        int[] highest = {1, 7, 7, 0, 3};
        for (int what = 0; what <= 4; what++) {
            due.is("what " + what, x.handle(24, what), lowest[what]);
            due.is("what " + what, x.handle(25, what), highest[what]);
        }
        ShareServer y = new ShareServer();
        y.open(0, 0, 0, Due.NEW_FILE, 2);
        y.open(0, 0, 0, Due.ALL, 2);
        due.is("the highest GRANT", y.handle(1, 3), 3);
    }

    private static void promise19WhatOutOfRange(Due due) {
        due.sentence("Promise 19", "Numbers of nodes given (0) [..] handles ever made (6); else REFUSED");
        ShareServer x = new ShareServer();
        for (int what = 0; what <= 6; what++) {
            due.is("a new object, what " + what, x.count(what), 0);
        }
        due.is("what -1", x.count(-1), REFUSED);
        due.is("what 7", x.count(7), REFUSED);
        for (int wild : Due.WILD) {
            due.is("what " + wild, x.count(wild), REFUSED);
        }
    }

    private static void promise19NumbersAndHandles(Due due) {
        due.sentence("Promise 19", "Numbers of nodes given (0), OPEN handles (1) [..] handles ever made (6)");
        ShareServer x = new ShareServer();
        for (int i = 1; i <= 24; i++) {
            x.open(0, 0, 0, Due.NEW_FILE | Due.REMOVES, 0);
            due.is("given", x.count(0), i);
            due.is("OPEN", x.count(1), 1);
            due.is("ever made", x.count(6), i);
            x.close(i);
            due.is("OPEN", x.count(1), 0);
            due.is("given, when it is removed", x.count(0), i);
        }
        x.open(0, 0, 0, Due.NEW_FILE, 0);
        due.is("no 25th", x.count(0), 24);
        due.is("no handle", x.count(6), 24);
        ShareServer y = new ShareServer();
        for (int i = 1; i <= 14; i++) {
            y.open(0, 0, 0, Due.NEW_FILE, 0);
            due.is("OPEN", y.count(1), Math.min(i, 12));
            due.is("ever made", y.count(6), Math.min(i, 12));
        }
        y.close(1);
        due.is("OPEN", y.count(1), 11);
        due.is("ever made", y.count(6), 12);
    }

    private static void promise19WaitingAndRequests(Due due) {
        due.sentence("Promise 19", "WAITING requests (2) [..] requests (5)");
        ShareServer x = new ShareServer();
        x.open(0, 0, 0, Due.NEW_FILE, 2);
        for (int i = 1; i <= 4; i++) {
            x.open(0, 0, 0, Due.ALL, 0);
            due.is("WAITING", x.count(2), i);
            due.is("requests", x.count(5), i + 1);
        }
        x.open(0, 0, 0, Due.ALL, 3);
        due.is("a refused one is none", x.count(5), 5);
        x.cancel(3);
        due.is("taken back, WAITING", x.count(2), 3);
        due.is("taken back, requests", x.count(5), 5);
        x.giveUp(1);
        due.is("tried again, WAITING", x.count(2), 0);
        due.is("tried again, requests", x.count(5), 5);
        due.is("handles made", x.count(6), 4);
    }

    private static void promise19Changes(Due due) {
        due.sentence("Promise 19", "changes (3), durable ones (4)");
        ShareServer x = new ShareServer();
        x.open(0, 0, 0, Due.NEW_FILE, 0);
        for (int i = 2; i <= 13; i++) {
            x.write(1, 0, i);
            due.is("changes", x.count(3), i);
            due.is("durable ones of " + i, x.count(4), i / 6 * 6);
        }
        x.sync();
        due.is("after a sync", x.count(4), 13);
        x.write(1, 0, 14);
        due.is("changes", x.count(3), 14);
        due.is("durable ones", x.count(4), 13);
        x.crash();
        due.is("after a crash", x.count(3), 13);
        due.is("after a crash", x.count(4), 13);
    }
}
