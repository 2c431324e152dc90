/** Promises 12 and 13: lock and unlock. */
public final class LocksTest {
    private static final int REFUSED = ShareServer.REFUSED;
    private static final int LOCKED = ShareServer.LOCKED;

    public static void main(String[] args) {
        Due due = new Due();
        wrongNumbers(due);
        allRanges(due);
        meeting(due);
        atMostEight(due);
        unlocking(due);
        theOldestGoes(due);
        due.end();
    }

    private static void wrongNumbers(Due due) {
        ShareServer x = new ShareServer();
        due.is("lock, no handle", x.lock(1, 0, 1, true), REFUSED);
        due.is("unlock, no handle", x.unlock(1, 0, 1), REFUSED);
        x.open(0, 0, 0, Due.DELETE | Due.MAKE, 0);
        x.open(0, 0, 1, Due.NEW_FOLDER, 0);
        for (int wild : Due.WILD) {
            due.is("lock, handle " + wild, x.lock(wild, 0, 1, true), REFUSED);
            due.is("lock, first " + wild, x.lock(1, wild, 1, true), REFUSED);
            due.is("lock, n " + wild, x.lock(1, 1, wild, true), REFUSED);
            due.is("lock, both " + wild, x.lock(1, wild, wild, true), REFUSED);
            due.is("unlock, handle " + wild, x.unlock(wild, 0, 1), REFUSED);
            due.is("unlock, first " + wild, x.unlock(1, wild, 1), REFUSED);
            due.is("unlock, n " + wild, x.unlock(1, 1, wild), REFUSED);
        }
        due.is("lock a directory", x.lock(2, 0, 1, true), REFUSED);
        due.is("unlock a directory", x.unlock(2, 0, 1), REFUSED);
        due.is("no lock", x.node(1, 5), 0);
        due.is("no access is needed but to be open", x.lock(1, 0, 1, true), 1);
        due.is("REFUSED before LOCKED", x.lock(1, 0, 33, true), REFUSED);
        x.close(1);
        due.is("lock, closed", x.lock(1, 0, 1, true), REFUSED);
        due.is("unlock, closed", x.unlock(1, 0, 1), REFUSED);
    }

    private static void allRanges(Due due) {
        for (int first = -2; first <= 34; first++) {
            for (int n = -2; n <= 35; n++) {
                ShareServer x = new ShareServer();
                x.open(0, 0, 0, Due.NEW_FILE, 0);
                boolean fits = first >= 0 && first <= 31 && n >= 1 && first + n <= 32;
                String range = first + ", " + n;
                due.is("lock " + range, x.lock(1, first, n, true), fits ? 1 : REFUSED);
                due.is("locks after " + range, x.node(1, 5), fits ? 1 : 0);
                due.is("unlock " + range, x.unlock(1, first, n), fits ? 0 : REFUSED);
            }
        }
    }

    private static void meeting(Due due) {
        for (int kinds = 0; kinds < 8; kinds++) {
            boolean oneAlone = (kinds & 1) != 0;
            boolean otherAlone = (kinds & 2) != 0;
            int other = (kinds & 4) != 0 ? 2 : 1;
            for (int first = 0; first < 16; first++) {
                for (int n = 1; n <= 12; n++) {
                    ShareServer x = new ShareServer();
                    x.open(0, 0, 0, Due.NEW_FILE, 0);
                    x.open(0, 0, 0, Due.ALL, 0);
                    x.lock(1, 5, 4, oneAlone);
                    boolean meets = first <= 8 && first + n > 5;
                    int want = meets && (oneAlone || otherAlone) ? LOCKED : 2;
                    due.is("lock " + first + ", " + n + ", kinds " + kinds, x.lock(other, first, n, otherAlone), want);
                    due.is("locks then", x.node(1, 5), want == 2 ? 2 : 1);
                }
            }
        }
        ShareServer x = new ShareServer();
        x.open(0, 0, 0, Due.NEW_FILE, 0);
        x.open(0, 0, 1, Due.NEW_FILE, 0);
        due.is("one file", x.lock(1, 0, 32, true), 1);
        due.is("another file", x.lock(2, 0, 32, true), 1);
    }

    private static void atMostEight(Due due) {
        ShareServer x = new ShareServer();
        x.open(0, 0, 0, Due.NEW_FILE, 0);
        x.open(0, 0, 0, Due.ALL, 0);
        x.open(0, 0, 1, Due.NEW_FILE, 0);
        for (int i = 0; i < 8; i++) {
            due.is("lock " + i, x.lock(1 + i % 2, i, 1, i % 3 == 0), i + 1);
        }
        due.is("a ninth", x.lock(1, 20, 1, true), ShareServer.FULL);
        due.is("LOCKED before FULL", x.lock(1, 0, 1, true), LOCKED);
        due.is("there are eight", x.node(1, 5), 8);
        due.is("another file has room", x.lock(3, 20, 1, true), 1);
        due.is("unlock", x.unlock(2, 1, 1), 7);
        due.is("the eighth again", x.lock(1, 20, 1, true), 8);
        due.is("all of one handle go", x.close(2), 2);
        due.is("five stay", x.node(1, 5), 5);
    }

    private static void unlocking(Due due) {
        ShareServer x = new ShareServer();
        x.open(0, 0, 0, Due.NEW_FILE, 0);
        x.open(0, 0, 0, Due.ALL, 0);
        due.is("none yet", x.unlock(1, 4, 4), REFUSED);
        due.is("lock", x.lock(1, 4, 4, false), 1);
        due.is("fewer cells", x.unlock(1, 4, 3), REFUSED);
        due.is("more cells", x.unlock(1, 4, 5), REFUSED);
        due.is("other cells", x.unlock(1, 5, 4), REFUSED);
        due.is("the end of them", x.unlock(1, 5, 3), REFUSED);
        due.is("another handle", x.unlock(2, 4, 4), REFUSED);
        due.is("it is still there", x.node(1, 5), 1);
        due.is("the other's own", x.lock(2, 4, 4, false), 2);
        due.is("the other's own goes", x.unlock(2, 4, 4), 1);
        due.is("the first's is still there", x.unlock(1, 4, 4), 0);
        due.is("just these", x.unlock(1, 4, 4), REFUSED);
        due.is("locks are no changes", x.count(3), 1);
    }

    private static void theOldestGoes(Due due) {
        ShareServer x = new ShareServer();
        x.open(0, 0, 0, Due.NEW_FILE, 0);
        due.is("one", x.lock(1, 4, 4, false), 1);
        due.is("the same again", x.lock(1, 4, 4, false), 2);
        due.is("one beside", x.lock(1, 0, 1, true), 3);
        due.is("one goes", x.unlock(1, 4, 4), 2);
        due.is("one is left: no lock alone", x.lock(1, 4, 1, true), LOCKED);
        due.is("nor a write", x.write(1, 4, 1), LOCKED);
        due.is("the other goes", x.unlock(1, 4, 4), 1);
        due.is("now a write", x.write(1, 4, 1), 0);
        due.is("the one beside is still there", x.lock(1, 0, 1, false), LOCKED);
        due.is("it goes", x.unlock(1, 0, 1), 0);
    }
}
