/** Promises 16 to 19: find, node, handle and count. */
public final class LookTest {
    private static final int REFUSED = ShareServer.REFUSED;
    private static final int NOWHERE = ShareServer.NOWHERE;

    public static void main(String[] args) {
        Due due = new Due();
        finding(due, someNodes());
        nodes(due, someNodes());
        handles(due, someNodes());
        counts(due);
        due.end();
    }

    private static ShareServer someNodes() {
        ShareServer x = new ShareServer();
        x.open(1, 0, 3, Due.NEW_FOLDER, 2);
        x.open(2, 1, 15, Due.READ | Due.DELETE | Due.SHARE_ALL | Due.MAKE, 1);
        x.open(3, 1, 15, Due.READ | Due.SHARE_READ | Due.SHARE_DELETE, 0);
        x.open(0, 1, 0, Due.NEW_FOLDER, 0);
        x.open(0, 0, 0, Due.WRITE | Due.SHARE_WRITE | Due.MAKE, 2);
        x.lock(2, 0, 4, false);
        x.lock(3, 0, 4, false);
        x.doom(2, true);
        return x;
    }

    private static void finding(Due due, ShareServer x) {
        due.is("in the root", x.find(0, 3), 1);
        due.is("in a directory", x.find(1, 15), 2);
        due.is("in a directory", x.find(1, 0), 3);
        due.is("the name 0", x.find(0, 0), 4);
        due.is("a free name", x.find(0, 4), NOWHERE);
        due.is("an empty directory", x.find(3, 0), NOWHERE);
        due.is("a file", x.find(2, 0), NOWHERE);
        due.is("a directory not there", x.find(24, 0), NOWHERE);
        due.is("directory -1", x.find(-1, 0), REFUSED);
        due.is("directory 25", x.find(25, 0), REFUSED);
        due.is("name -1", x.find(0, -1), REFUSED);
        due.is("name 16", x.find(0, 16), REFUSED);
        due.is("the root has no place", x.find(NOWHERE, NOWHERE), REFUSED);
        for (int wild : Due.WILD) {
            due.is("directory " + wild, x.find(wild, 0), REFUSED);
            due.is("name " + wild, x.find(0, wild), REFUSED);
        }
    }

    private static void nodes(Due due, ShareServer x) {
        int[][] want = {
            {NOWHERE, NOWHERE, 1, 0, 0, 0, 2},
            {0, 3, 1, 0, 1, 0, 2},
            {1, 15, 0, 1, 2, 2, 0},
            {1, 0, 1, 0, 1, 0, 0},
            {0, 0, 0, 0, 1, 0, 0},
        };
        for (int node = 0; node < want.length; node++) {
            for (int what = 0; what < want[node].length; what++) {
                due.is("node(" + node + ", " + what + ")", x.node(node, what), want[node][what]);
            }
            due.is("node(" + node + ", 7)", x.node(node, 7), REFUSED);
            for (int wild : Due.WILD) {
                due.is("node(" + node + ", " + wild + ")", x.node(node, wild), REFUSED);
            }
        }
        for (int what = -1; what <= 7; what++) {
            due.is("node(5, " + what + ")", x.node(5, what), REFUSED);
            due.is("node(24, " + what + ")", x.node(24, what), REFUSED);
            due.is("node(25, " + what + ")", x.node(25, what), REFUSED);
            for (int wild : Due.WILD) {
                due.is("node(" + wild + ", " + what + ")", x.node(wild, what), REFUSED);
            }
        }
    }

    private static void handles(Due due, ShareServer x) {
        int[][] want = {
            {1, 7, 7, 0, 1},
            {2, 5, 7, 1, 2},
            {2, 1, 5, 0, 3},
            {3, 7, 7, 0, 0},
            {4, 2, 2, 2, 0},
        };
        for (int handle = 1; handle <= want.length; handle++) {
            for (int what = 0; what < want[handle - 1].length; what++) {
                due.is("handle(" + handle + ", " + what + ")", x.handle(handle, what), want[handle - 1][what]);
            }
            due.is("handle(" + handle + ", 5)", x.handle(handle, 5), REFUSED);
            for (int wild : Due.WILD) {
                due.is("handle(" + handle + ", " + wild + ")", x.handle(handle, wild), REFUSED);
            }
        }
        for (int what = -1; what <= 5; what++) {
            due.is("handle(0, " + what + ")", x.handle(0, what), REFUSED);
            due.is("handle(6, " + what + ")", x.handle(6, what), REFUSED);
            for (int wild : Due.WILD) {
                due.is("handle(" + wild + ", " + what + ")", x.handle(wild, what), REFUSED);
            }
        }
    }

    private static void counts(Due due) {
        ShareServer x = new ShareServer();
        for (int name = 0; name < 8; name++) {
            x.open(0, 0, name, Due.NEW_FILE | Due.REMOVES, 2);
        }
        x.open(0, 0, 0, Due.ALL, 0);
        x.open(0, 0, 1, Due.ALL, 0);
        x.open(0, 0, 9, Due.ALL, 0);
        x.close(8);
        x.close(7);
        x.close(6);
        due.counts("all differ", x, 8, 5, 2, 11, 6, 11, 8);
        due.is("count(-1)", x.count(-1), REFUSED);
        due.is("count(7)", x.count(7), REFUSED);
        for (int wild : Due.WILD) {
            due.is("count " + wild, x.count(wild), REFUSED);
        }
        due.counts("looking changes nothing", x, 8, 5, 2, 11, 6, 11, 8);
    }
}
