/** Promise 8: move, in the order of its tests. */
public final class MoveTest {
    private static final int REFUSED = ShareServer.REFUSED;
    private static final int NOWHERE = ShareServer.NOWHERE;

    public static void main(String[] args) {
        Due due = new Due();
        wrongNumbers(due);
        moving(due);
        intoItself(due);
        asDeepAsCanBe(due);
        order(due);
        whatAMoveKeeps(due);
        due.end();
    }

    private static void wrongNumbers(Due due) {
        ShareServer x = new ShareServer();
        due.is("no handle", x.move(1, 0, 1), REFUSED);
        x.open(0, 0, 0, Due.NEW_FILE, 0);
        due.is("handle 0", x.move(0, 0, 1), REFUSED);
        due.is("name -1", x.move(1, 0, -1), REFUSED);
        due.is("name 16", x.move(1, 0, 16), REFUSED);
        due.is("name 16, directory not there", x.move(1, 7, 16), REFUSED);
        due.is("directory -1", x.move(1, -1, 1), REFUSED);
        due.is("directory 25", x.move(1, 25, 1), REFUSED);
        due.is("directory 24, not there", x.move(1, 24, 1), NOWHERE);
        for (int wild : Due.WILD) {
            due.is("handle " + wild, x.move(wild, 0, 1), REFUSED);
            due.is("directory " + wild, x.move(1, wild, 1), REFUSED);
            due.is("name " + wild, x.move(1, 0, wild), REFUSED);
        }
        due.is("without DELETE", Due.opened(x, 0, 0, 0, Due.ALL & ~Due.DELETE, 0), 2);
        due.is("without DELETE", x.move(2, 0, 1), REFUSED);
        due.is("without DELETE, before NOWHERE", x.move(2, 9, 1), REFUSED);
        due.is("no change", x.count(3), 1);
        due.is("still there", x.find(0, 0), 1);
        x.close(1);
        due.is("closed", x.move(1, 0, 1), REFUSED);
    }

    private static void moving(Due due) {
        ShareServer x = new ShareServer();
        x.open(0, 0, 0, Due.NEW_FILE, 0);
        x.open(0, 0, 1, Due.NEW_FOLDER, 0);
        due.is("another name", x.move(1, 0, 15), 0);
        due.is("the old place is free", x.find(0, 0), NOWHERE);
        due.is("the new place", x.find(0, 15), 1);
        due.is("another directory", x.move(1, 2, 0), 0);
        due.is("its directory", x.node(1, 0), 2);
        due.is("its name", x.node(1, 1), 0);
        due.is("nodes in it", x.node(2, 6), 1);
        due.is("nodes in the root", x.node(0, 6), 1);
        due.is("back", x.move(1, 0, 0), 0);
        due.is("two made, three moved", x.count(3), 5);
        due.is("none durable", x.count(4), 0);
        due.is("the sixth", x.move(1, 0, 2), 0);
        due.is("all durable", x.count(4), 6);
        due.is("to its own place", x.move(1, 0, 2), ShareServer.TAKEN);
        due.is("to another's place", x.move(1, 0, 1), ShareServer.TAKEN);
        due.is("no change", x.count(3), 6);
        due.is("into the file", x.move(2, 1, 0), NOWHERE);
        due.is("a file into itself", x.move(1, 1, 0), NOWHERE);
    }

    private static void intoItself(Due due) {
        ShareServer x = new ShareServer();
        x.open(0, 0, 0, Due.NEW_FOLDER, 0);
        for (int depth = 1; depth <= 10; depth++) {
            due.is("deeper", Due.opened(x, 0, depth, 0, Due.NEW_FOLDER, 0), depth + 1);
        }
        for (int inner = 1; inner <= 11; inner++) {
            due.is("the outermost into " + inner, x.move(1, inner, 5), REFUSED);
        }
        due.is("one in the middle into the innermost", x.move(6, 11, 5), REFUSED);
        due.is("into itself, to a taken place", x.move(6, 6, 0), REFUSED);
        due.is("outwards", x.move(6, 2, 5), 0);
        due.is("it is there", x.find(2, 5), 6);
        due.is("what was in it moves along", x.find(6, 0), 7);
        due.is("now what held it may go in", x.move(4, 11, 5), 0);
        due.is("it is there", x.find(11, 5), 4);
        due.is("and not the other way", x.move(6, 5, 1), REFUSED);
        due.is("changes", x.count(3), 13);
    }

    private static void asDeepAsCanBe(Due due) {
        ShareServer x = new ShareServer();
        x.open(0, 0, 0, Due.NEW_FOLDER, 0);
        for (int depth = 1; depth <= 23; depth++) {
            due.is("deeper", Due.opened(x, 0, depth, 0, Due.NEW_FOLDER, 0), depth + 1);
            due.is("closed", x.close(depth + 1), 1);
        }
        due.is("the outermost into the innermost", x.move(1, 24, 5), REFUSED);
        due.is("the innermost", Due.opened(x, 0, 23, 0, Due.ALL | Due.FOLDER, 0), 25);
        due.is("into its own directory", x.move(25, 23, 1), 0);
        due.is("into the outermost", x.move(25, 1, 1), 0);
        due.is("out of it", x.move(25, 0, 1), 0);
        due.is("the outermost goes in", x.move(1, 24, 5), 0);
        due.is("the root has one", x.node(0, 6), 1);
    }

    private static void order(Due due) {
        ShareServer x = new ShareServer();
        x.open(0, 0, 0, Due.NEW_FOLDER, 0);
        x.open(0, 0, 1, Due.NEW_FILE, 0);
        due.is("DOOMED", x.doom(1, true), 0);
        due.is("into a DOOMED directory", x.move(2, 1, 0), ShareServer.DOOM);
        due.is("DOOM before into itself", x.move(1, 1, 0), ShareServer.DOOM);
        due.is("a DOOMED node may move", x.move(1, 0, 5), 0);
        due.is("it is DOOMED still", x.node(1, 3), 1);
        due.is("not any more", x.doom(1, false), 0);
        due.is("into itself", x.move(1, 1, 0), REFUSED);
        due.is("now a file may go in", x.move(2, 1, 0), 0);
        due.is("into itself before TAKEN", x.move(1, 1, 0), REFUSED);
        due.is("a directory with a DOOMED file", x.doom(2, true), 0);
        due.is("is no DOOMED one", Due.opened(x, 0, 1, 1, Due.NEW_FILE, 0), 3);
    }

    private static void whatAMoveKeeps(Due due) {
        ShareServer x = new ShareServer();
        x.open(0, 0, 0, Due.NEW_FILE, 2);
        x.open(0, 0, 1, Due.NEW_FOLDER, 0);
        x.write(1, 7, 70);
        x.lock(1, 3, 4, false);
        due.is("moved", x.move(1, 2, 9), 0);
        due.is("its grant", x.handle(1, 3), 2);
        due.is("its locks", x.node(1, 5), 1);
        due.is("its handles", x.node(1, 4), 1);
        due.is("its number", x.handle(1, 0), 1);
        due.cell("its cell", x, 1, 7, 70);
        due.is("the old place is free", Due.opened(x, 0, 0, 0, Due.NEW_FILE | Due.FRESH, 0), 3);
    }
}
