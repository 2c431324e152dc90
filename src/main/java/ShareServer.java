/**
 * A file server for four clients: opens with access and share modes, caching grants that are broken before another open
 * goes on, locks on ranges of cells, removal when the last open is closed, moving, and a log of changes that survives a
 * crash.
 */
public final class ShareServer {
    public static final int REFUSED = -1;
    public static final int FULL = -2;
    public static final int NOWHERE = -3;
    public static final int TAKEN = -4;
    public static final int KIND = -5;
    public static final int SHARING = -6;
    public static final int DOOM = -7;
    public static final int LOCKED = -8;
    public static final int LOST = -9;
    public static final int WAITING = 0;
    public static final int MAKE = 64;
    public static final int FRESH = 128;
    public static final int FOLDER = 256;
    public static final int REMOVES = 512;

    private static final int DONE = 0;

    private static final int READ = 1;
    private static final int WRITE = 2;
    private static final int DELETE = 4;
    private static final int EVERY_ACCESS = READ | WRITE | DELETE;
    private static final int SHARE_SHIFT = 3;

    private static final int GRANT_NONE = 0;
    private static final int GRANT_SHARED = 1;
    private static final int GRANT_ALONE = 2;
    private static final int GRANT_BREAKING = 3;

    private static final int WISH_NOTHING = 0;
    private static final int WISH_ALONE = 2;

    private static final int ROOT = 0;
    private static final int CLIENTS = 4;
    private static final int NAMES = 16;
    private static final int MODES = 1024;
    private static final int WISHES = 3;
    private static final int CELLS = 32;
    private static final int MOST_NODES = 24;
    private static final int MOST_OPEN = 12;
    private static final int MOST_LOCKS = 8;
    private static final int MOST_UNSAFE_CHANGES = 6;
    // One request at most in each of the 512 calls that an object is used for.
    private static final int MOST_REQUESTS = 512;

    private static final int MADE = 0;
    private static final int REMOVED = 1;
    private static final int MOVED = 2;
    private static final int WRITTEN = 3;

    // By number; null for a node that is not there.
    private final Node[] nodes;
    private int nodesGiven;
    private final Handle[] opens;
    private int openCount;
    private int handlesMade;
    // The request with the number n stands at n - 1.
    private final Request[] requests;
    private int requestCount;
    private final Log log;
    private int lastRead;

    public ShareServer() {
        nodes = new Node[MOST_NODES + 1];
        nodes[ROOT] = new Node(ROOT, NOWHERE, NOWHERE, true);
        opens = new Handle[MOST_OPEN];
        requests = new Request[MOST_REQUESTS];
        log = new Log();
    }

    public int open(int client, int directory, int name, int mode, int wish) {
        if (!isBelow(client, CLIENTS) || !isPlace(directory, name) || !isMode(mode) || !isBelow(wish, WISHES)) {
            return REFUSED;
        }
        if (requestCount >= MOST_REQUESTS) {
            return REFUSED;
        }
        Request request = new Request(client, directory, name, mode, wish);
        requests[requestCount] = request;
        requestCount++;
        request.outcome = attempt(request);
        return requestCount;
    }

    public int outcome(int request) {
        Request asked = requestNumbered(request);
        return asked == null ? REFUSED : asked.outcome;
    }

    public int cancel(int request) {
        Request waiting = requestNumbered(request);
        if (waiting == null || waiting.outcome != WAITING) {
            return REFUSED;
        }
        waiting.outcome = LOST;
        return DONE;
    }

    public int giveUp(int handle) {
        Handle giver = openHandle(handle);
        if (giver == null || giver.grant == GRANT_NONE) {
            return REFUSED;
        }
        boolean wasBreaking = giver.grant == GRANT_BREAKING;
        giver.grant = giver.grant == GRANT_SHARED ? GRANT_NONE : GRANT_SHARED;
        if (wasBreaking) {
            tryWaitingAgain();
        }
        return giver.grant;
    }

    public int close(int handle) {
        Handle closing = openHandle(handle);
        if (closing == null) {
            return REFUSED;
        }
        closing.node.dropLocksOf(closing);
        dropFromOpens(closing);
        doomIfItRemoves(closing);
        settleDoom(closing.node);
        if (closing.grant == GRANT_BREAKING) {
            tryWaitingAgain();
        }
        return openCount;
    }

    public int doom(int handle, boolean on) {
        Handle dooming = openHandle(handle);
        if (dooming == null || !dooming.may(DELETE)) {
            return REFUSED;
        }
        if (on && !isRemovable(dooming.node)) {
            return REFUSED;
        }
        dooming.node.doomed = on;
        return DONE;
    }

    public int move(int handle, int directory, int name) {
        Handle mover = openHandle(handle);
        if (mover == null || !isPlace(directory, name) || !mover.may(DELETE) || mover.node.number == ROOT) {
            return REFUSED;
        }
        if (!isFolderThere(directory)) {
            return NOWHERE;
        }
        if (nodes[directory].doomed) {
            return DOOM;
        }
        if (isOrLiesInside(directory, mover.node.number)) {
            return REFUSED;
        }
        if (nodeAt(directory, name) != null) {
            return TAKEN;
        }
        log.add(new Change(MOVED, mover.node, mover.node.directory, mover.node.name));
        mover.node.directory = directory;
        mover.node.name = name;
        return DONE;
    }

    public int read(int handle, int cell) {
        Handle reader = openHandle(handle);
        if (reader == null || !isBelow(cell, CELLS) || !reader.may(READ) || reader.node.folder) {
            return REFUSED;
        }
        if (reader.node.barsReading(reader, cell)) {
            return LOCKED;
        }
        lastRead = reader.node.cells[cell];
        return DONE;
    }

    public int value() {
        return lastRead;
    }

    public int write(int handle, int cell, int value) {
        Handle writer = openHandle(handle);
        if (writer == null || !isBelow(cell, CELLS) || !writer.may(WRITE) || writer.node.folder) {
            return REFUSED;
        }
        if (writer.node.barsWriting(writer, cell)) {
            return LOCKED;
        }
        endSharedGrantsBeside(writer);
        log.add(new Change(WRITTEN, writer.node, cell, writer.node.cells[cell]));
        writer.node.cells[cell] = value;
        return DONE;
    }

    public int lock(int handle, int first, int n, boolean alone) {
        Handle locker = openHandle(handle);
        if (locker == null || !isRange(first, n) || locker.node.folder) {
            return REFUSED;
        }
        Lock wanted = new Lock(locker, first, n, alone);
        if (locker.node.barsLocking(wanted)) {
            return LOCKED;
        }
        if (locker.node.lockCount >= MOST_LOCKS) {
            return FULL;
        }
        locker.node.addLock(wanted);
        return locker.node.lockCount;
    }

    public int unlock(int handle, int first, int n) {
        Handle locker = openHandle(handle);
        if (locker == null || !isRange(first, n) || locker.node.folder) {
            return REFUSED;
        }
        int oldest = locker.node.oldestLock(locker, first, n);
        if (oldest < 0) {
            return REFUSED;
        }
        locker.node.dropLock(oldest);
        return locker.node.lockCount;
    }

    public int sync() {
        log.makeAllDurable();
        return log.changes();
    }

    public int crash() {
        undoUnsafeChanges();
        openCount = 0;
        calmNodes();
        loseWaiting();
        return log.changes();
    }

    public int find(int directory, int name) {
        if (!isPlace(directory, name)) {
            return REFUSED;
        }
        Node found = nodeAt(directory, name);
        return found == null ? NOWHERE : found.number;
    }

    public int node(int node, int what) {
        if (!isBelow(node, nodes.length) || nodes[node] == null) {
            return REFUSED;
        }
        Node asked = nodes[node];
        switch (what) {
            case 0:
                return asked.directory;
            case 1:
                return asked.name;
            case 2:
                return asked.folder ? 1 : 0;
            case 3:
                return asked.doomed ? 1 : 0;
            case 4:
                return opensOf(asked);
            case 5:
                return asked.lockCount;
            case 6:
                return nodesIn(asked);
            default:
                return REFUSED;
        }
    }

    public int handle(int handle, int what) {
        Handle asked = openHandle(handle);
        if (asked == null) {
            return REFUSED;
        }
        switch (what) {
            case 0:
                return asked.node.number;
            case 1:
                return asked.access;
            case 2:
                return asked.share;
            case 3:
                return asked.grant;
            case 4:
                return asked.client;
            default:
                return REFUSED;
        }
    }

    public int count(int what) {
        switch (what) {
            case 0:
                return nodesGiven;
            case 1:
                return openCount;
            case 2:
                return waitingRequests();
            case 3:
                return log.changes();
            case 4:
                return log.durable;
            case 5:
                return requestCount;
            case 6:
                return handlesMade;
            default:
                return REFUSED;
        }
    }

    private static boolean isBelow(int number, int bound) {
        return number >= 0 && number < bound;
    }

    private static boolean isPlace(int directory, int name) {
        return isBelow(directory, MOST_NODES + 1) && isBelow(name, NAMES);
    }

    private static boolean isMode(int mode) {
        if (!isBelow(mode, MODES) || (mode & EVERY_ACCESS) == 0) {
            return false;
        }
        return (mode & REMOVES) == 0 || (mode & DELETE) != 0;
    }

    // The first two tests come first so that the sum can't wrap around.
    private static boolean isRange(int first, int n) {
        return isBelow(first, CELLS) && isBelow(n - 1, CELLS) && first + n <= CELLS;
    }

    private int attempt(Request request) {
        if (!isFolderThere(request.directory)) {
            return NOWHERE;
        }
        Node node = nodeAt(request.directory, request.name);
        return node == null ? openNew(request) : openThere(request, node);
    }

    private int openNew(Request request) {
        if (!request.has(MAKE)) {
            return NOWHERE;
        }
        if (nodes[request.directory].doomed) {
            return DOOM;
        }
        if (nodesGiven >= MOST_NODES || openCount >= MOST_OPEN) {
            return FULL;
        }
        return makeHandle(request, makeNode(request));
    }

    private int openThere(Request request, Node node) {
        if (request.has(MAKE) && request.has(FRESH)) {
            return TAKEN;
        }
        if (node.folder != request.has(FOLDER)) {
            return KIND;
        }
        if (breaksGrant(node)) {
            return WAITING;
        }
        if (node.doomed) {
            return DOOM;
        }
        if (clashesWithOpens(request, node)) {
            return SHARING;
        }
        if (openCount >= MOST_OPEN) {
            return FULL;
        }
        return makeHandle(request, node);
    }

    private Node makeNode(Request request) {
        nodesGiven++;
        Node made = new Node(nodesGiven, request.directory, request.name, request.has(FOLDER));
        nodes[made.number] = made;
        log.add(new Change(MADE, made, 0, 0));
        return made;
    }

    private int makeHandle(Request request, Node node) {
        int grant = grantFor(request, node);
        handlesMade++;
        opens[openCount] = new Handle(handlesMade, node, request, grant);
        openCount++;
        return handlesMade;
    }

    private int grantFor(Request request, Node node) {
        if (node.folder || request.wish == WISH_NOTHING) {
            return GRANT_NONE;
        }
        return request.wish == WISH_ALONE && opensOf(node) == 0 ? GRANT_ALONE : GRANT_SHARED;
    }

    private boolean breaksGrant(Node node) {
        for (int i = 0; i < openCount; i++) {
            Handle other = opens[i];
            if (other.node == node && other.grant >= GRANT_ALONE) {
                other.grant = GRANT_BREAKING;
                return true;
            }
        }
        return false;
    }

    private boolean clashesWithOpens(Request request, Node node) {
        for (int i = 0; i < openCount; i++) {
            Handle other = opens[i];
            boolean clash = (request.access() & ~other.share) != 0 || (other.access & ~request.share()) != 0;
            if (other.node == node && clash) {
                return true;
            }
        }
        return false;
    }

    private void tryWaitingAgain() {
        for (int i = 0; i < requestCount; i++) {
            if (requests[i].outcome == WAITING) {
                requests[i].outcome = attempt(requests[i]);
            }
        }
    }

    private void loseWaiting() {
        for (int i = 0; i < requestCount; i++) {
            if (requests[i].outcome == WAITING) {
                requests[i].outcome = LOST;
            }
        }
    }

    private int waitingRequests() {
        int waiting = 0;
        for (int i = 0; i < requestCount; i++) {
            if (requests[i].outcome == WAITING) {
                waiting++;
            }
        }
        return waiting;
    }

    private Request requestNumbered(int number) {
        return number >= 1 && number <= requestCount ? requests[number - 1] : null;
    }

    private Handle openHandle(int number) {
        for (int i = 0; i < openCount; i++) {
            if (opens[i].number == number) {
                return opens[i];
            }
        }
        return null;
    }

    private int opensOf(Node node) {
        int found = 0;
        for (int i = 0; i < openCount; i++) {
            if (opens[i].node == node) {
                found++;
            }
        }
        return found;
    }

    private void dropFromOpens(Handle closed) {
        int kept = 0;
        for (int i = 0; i < openCount; i++) {
            if (opens[i] != closed) {
                opens[kept] = opens[i];
                kept++;
            }
        }
        openCount = kept;
    }

    private void doomIfItRemoves(Handle closed) {
        if (closed.removes && isRemovable(closed.node)) {
            closed.node.doomed = true;
        }
    }

    private void settleDoom(Node node) {
        if (!node.doomed || opensOf(node) > 0) {
            return;
        }
        if (isRemovable(node)) {
            nodes[node.number] = null;
            log.add(new Change(REMOVED, node, 0, 0));
        } else {
            node.doomed = false;
        }
    }

    private void endSharedGrantsBeside(Handle writer) {
        for (int i = 0; i < openCount; i++) {
            Handle other = opens[i];
            if (other != writer && other.node == writer.node && other.grant == GRANT_SHARED) {
                other.grant = GRANT_NONE;
            }
        }
    }

    private boolean isFolderThere(int number) {
        return isBelow(number, nodes.length) && nodes[number] != null && nodes[number].folder;
    }

    private Node nodeAt(int directory, int name) {
        for (int i = 0; i < nodes.length; i++) {
            Node node = nodes[i];
            if (node != null && node.directory == directory && node.name == name) {
                return node;
            }
        }
        return null;
    }

    private int nodesIn(Node directory) {
        int found = 0;
        for (int i = 0; i < nodes.length; i++) {
            if (nodes[i] != null && nodes[i].directory == directory.number) {
                found++;
            }
        }
        return found;
    }

    private boolean isRemovable(Node node) {
        return node.number != ROOT && nodesIn(node) == 0;
    }

    // No chain of directories is longer than there are nodes.
    private boolean isOrLiesInside(int number, int outer) {
        int at = number;
        for (int steps = 0; steps <= MOST_NODES; steps++) {
            if (at == outer) {
                return true;
            }
            if (!isFolderThere(at)) {
                return false;
            }
            at = nodes[at].directory;
        }
        return false;
    }

    private void undoUnsafeChanges() {
        for (int i = log.unsafeCount - 1; i >= 0; i--) {
            undo(log.unsafe[i]);
        }
        log.unsafeCount = 0;
    }

    private void undo(Change change) {
        Node node = change.node;
        switch (change.kind) {
            case MADE:
                nodes[node.number] = null;
                nodesGiven--;
                break;
            case REMOVED:
                nodes[node.number] = node;
                break;
            case MOVED:
                node.directory = change.where;
                node.name = change.before;
                break;
            case WRITTEN:
                node.cells[change.where] = change.before;
                break;
            default:
                break;
        }
    }

    // After the undoing, because a removed node that is back was DOOMED when it went.
    private void calmNodes() {
        for (int i = 0; i < nodes.length; i++) {
            if (nodes[i] != null) {
                nodes[i].doomed = false;
                nodes[i].lockCount = 0;
            }
        }
    }

    private static final class Node {
        final int number;
        final boolean folder;
        // The root has no place: NOWHERE in both.
        int directory;
        int name;
        boolean doomed;
        final int[] cells;
        // In the order in which they were made.
        final Lock[] locks;
        int lockCount;

        Node(int number, int directory, int name, boolean folder) {
            this.number = number;
            this.directory = directory;
            this.name = name;
            this.folder = folder;
            cells = new int[folder ? 0 : CELLS];
            locks = new Lock[folder ? 0 : MOST_LOCKS];
        }

        boolean barsReading(Handle reader, int cell) {
            for (int i = 0; i < lockCount; i++) {
                if (locks[i].covers(cell) && locks[i].alone && locks[i].owner != reader) {
                    return true;
                }
            }
            return false;
        }

        boolean barsWriting(Handle writer, int cell) {
            for (int i = 0; i < lockCount; i++) {
                boolean helps = locks[i].alone && locks[i].owner == writer;
                if (locks[i].covers(cell) && !helps) {
                    return true;
                }
            }
            return false;
        }

        boolean barsLocking(Lock wanted) {
            for (int i = 0; i < lockCount; i++) {
                if (locks[i].meets(wanted) && (locks[i].alone || wanted.alone)) {
                    return true;
                }
            }
            return false;
        }

        void addLock(Lock added) {
            if (lockCount < locks.length) {
                locks[lockCount] = added;
                lockCount++;
            }
        }

        int oldestLock(Handle owner, int first, int n) {
            for (int i = 0; i < lockCount; i++) {
                if (locks[i].owner == owner && locks[i].first == first && locks[i].cells == n) {
                    return i;
                }
            }
            return -1;
        }

        void dropLock(int dropped) {
            for (int i = dropped; i < lockCount - 1; i++) {
                locks[i] = locks[i + 1];
            }
            lockCount--;
        }

        void dropLocksOf(Handle owner) {
            int kept = 0;
            for (int i = 0; i < lockCount; i++) {
                if (locks[i].owner != owner) {
                    locks[kept] = locks[i];
                    kept++;
                }
            }
            lockCount = kept;
        }
    }

    private static final class Handle {
        final int number;
        final Node node;
        final int client;
        final int access;
        final int share;
        final boolean removes;
        int grant;

        Handle(int number, Node node, Request request, int grant) {
            this.number = number;
            this.node = node;
            this.client = request.client;
            this.access = request.access();
            this.share = request.share();
            this.removes = request.has(REMOVES);
            this.grant = grant;
        }

        boolean may(int wanted) {
            return (access & wanted) != 0;
        }
    }

    private static final class Request {
        final int client;
        final int directory;
        final int name;
        final int mode;
        final int wish;
        int outcome;

        Request(int client, int directory, int name, int mode, int wish) {
            this.client = client;
            this.directory = directory;
            this.name = name;
            this.mode = mode;
            this.wish = wish;
            outcome = WAITING;
        }

        boolean has(int part) {
            return (mode & part) != 0;
        }

        int access() {
            return mode & EVERY_ACCESS;
        }

        int share() {
            return (mode >> SHARE_SHIFT) & EVERY_ACCESS;
        }
    }

    private static final class Lock {
        final Handle owner;
        final int first;
        final int cells;
        final boolean alone;

        Lock(Handle owner, int first, int cells, boolean alone) {
            this.owner = owner;
            this.first = first;
            this.cells = cells;
            this.alone = alone;
        }

        boolean covers(int cell) {
            return cell >= first && cell < first + cells;
        }

        boolean meets(Lock other) {
            return covers(other.first) || other.covers(first);
        }
    }

    /** What undoes a change: the place that a moved node had, or a written cell and what it held. */
    private static final class Change {
        final int kind;
        final Node node;
        // The directory of a moved node, or the cell.
        final int where;
        // The name of a moved node, or the cell's value.
        final int before;

        Change(int kind, Node node, int where, int before) {
            this.kind = kind;
            this.node = node;
            this.where = where;
            this.before = before;
        }
    }

    /** Durable changes are never undone, so they are only counted. */
    private static final class Log {
        final Change[] unsafe;
        int unsafeCount;
        int durable;

        Log() {
            unsafe = new Change[MOST_UNSAFE_CHANGES];
        }

        void add(Change change) {
            if (unsafeCount < unsafe.length) {
                unsafe[unsafeCount] = change;
                unsafeCount++;
            }
            if (unsafeCount >= unsafe.length) {
                makeAllDurable();
            }
        }

        void makeAllDurable() {
            durable += unsafeCount;
            unsafeCount = 0;
        }

        int changes() {
            return durable + unsafeCount;
        }
    }
}
