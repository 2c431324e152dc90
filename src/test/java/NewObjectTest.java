/** Promise 1: a new object, and that two objects share nothing. */
public final class NewObjectTest {
    public static void main(String[] args) {
        Due due = new Due();
        onlyTheRoot(due);
        objectsAreApart(due);
        due.end();
    }

    private static void onlyTheRoot(Due due) {
        ShareServer x = new ShareServer();
        due.counts("new", x, 0, 0, 0, 0, 0, 0, 0);
        int[] root = {ShareServer.NOWHERE, ShareServer.NOWHERE, 1, 0, 0, 0, 0};
        for (int what = 0; what < root.length; what++) {
            due.is("new: node(0, " + what + ")", x.node(0, what), root[what]);
        }
        for (int node = 1; node <= 24; node++) {
            due.is("new: node(" + node + ", 0)", x.node(node, 0), ShareServer.REFUSED);
        }
        for (int name = 0; name <= 15; name++) {
            due.is("new: find(0, " + name + ")", x.find(0, name), ShareServer.NOWHERE);
        }
        due.is("new: value", x.value(), 0);
        due.is("new: outcome(0)", x.outcome(0), ShareServer.REFUSED);
        due.is("new: outcome(1)", x.outcome(1), ShareServer.REFUSED);
        due.is("new: close(1)", x.close(1), ShareServer.REFUSED);
        due.is("new: sync", x.sync(), 0);
        due.is("new: crash", x.crash(), 0);
        due.is("new: the root after a crash", x.node(0, 2), 1);
    }

    private static void objectsAreApart(Due due) {
        ShareServer a = new ShareServer();
        ShareServer b = new ShareServer();
        due.is("a: open", a.open(0, 0, 0, Due.NEW_FILE, 0), 1);
        due.is("a: write", a.write(1, 0, 9), 0);
        due.cell("a", a, 1, 0, 9);
        due.counts("b", b, 0, 0, 0, 0, 0, 0, 0);
        due.is("b: value", b.value(), 0);
    }
}
