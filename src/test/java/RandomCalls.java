import java.util.ArrayList;
import java.util.Collections;
import java.util.List;
import java.util.Random;

/** Makes up calls, the same ones each time for a seed; most of them fit the state that the model is in. */
final class RandomCalls {
    private final Random random;
    /** Runs differ in how many names are in use, how much is shared, how often locks are alone and the state is lost. */
    private final int names;
    private final int sharing;
    private final int aloneLocks;
    private final int crashes;

    RandomCalls(long seed) {
        random = new Random(seed);
        names = 1 + random.nextInt(6);
        sharing = random.nextInt(4);
        aloneLocks = random.nextInt(3);
        crashes = random.nextInt(3);
    }

    int below(int bound) {
        return random.nextInt(bound);
    }

    /** A call that may change something. */
    Call change(Model model) {
        int kind = random.nextInt(100);
        if (kind < 34) {
            return new Call("open", upTo(3), directory(model), upTo(names), mode(), upTo(2));
        }
        int handle = handle(model);
        if (kind < 38) {
            return new Call("giveUp", handle);
        }
        if (kind < 48) {
            return new Call("close", handle);
        }
        if (kind < 96) {
            return onContents(model, kind, handle);
        }
        if (kind < 97 && crashes > 0 && random.nextInt(3) < crashes) {
            return new Call("crash");
        }
        return kind < 98 ? new Call("sync") : new Call("cancel", upTo(model.count(5) + 1));
    }

    private Call onContents(Model model, int kind, int handle) {
        int cell = upTo(31);
        if (kind < 54) {
            return new Call("doom", handle, random.nextInt(2));
        }
        if (kind < 62) {
            return new Call("move", handle, directory(model), upTo(names));
        }
        if (kind < 70) {
            return new Call("read", handle, cell);
        }
        if (kind < 80) {
            return new Call("write", handle, cell, random.nextInt());
        }
        if (kind < 91) {
            int n = random.nextInt(3) == 0 ? upTo(32) : upTo(4);
            return new Call("lock", handle, cell, n, random.nextInt(4) < aloneLocks ? 1 : 0);
        }
        List<int[]> there = model.rangesOf(handle);
        if (there.isEmpty() || random.nextInt(6) == 0) {
            return new Call("unlock", handle, cell, upTo(4));
        }
        int[] range = there.get(random.nextInt(there.size()));
        return new Call("unlock", handle, range[0], range[1]);
    }

    /** Eight locks at once now and then, or a file would hardly ever have so many. */
    List<Call> manyLocks(Model model) {
        List<Call> calls = new ArrayList<>();
        int handle = handle(model);
        int first = random.nextInt(24);
        for (int i = 0; i < 8; i++) {
            calls.add(new Call("lock", handle, first + i, 1 + random.nextInt(2), 0));
        }
        return calls;
    }

    /** Everything that can be looked at, the edges of each range too, in any order. */
    List<Call> looks(Model model) {
        List<Call> calls = new ArrayList<>();
        calls.add(new Call("value"));
        for (int what = -1; what <= 7; what++) {
            calls.add(new Call("count", what));
            for (int node = -1; node <= model.count(0) + 1; node++) {
                calls.add(new Call("node", node, what));
            }
            for (int handle = Math.max(0, model.count(6) - 20); what < 6 && handle <= model.count(6) + 1; handle++) {
                calls.add(new Call("handle", handle, what));
            }
        }
        for (int name = -1; name <= names + 1; name++) {
            for (int directory = -1; directory <= 25; directory++) {
                calls.add(new Call("find", directory, name));
            }
        }
        for (int request = 0; request <= model.count(5) + 1; request++) {
            calls.add(new Call("outcome", request));
        }
        Collections.shuffle(calls, random);
        return calls;
    }

    private int upTo(int most) {
        return random.nextInt(25) == 0 ? random.nextInt(40) - 4 : random.nextInt(most + 1);
    }

    /** Most often an OPEN handle. */
    private int handle(Model model) {
        int made = model.count(6);
        for (int i = 0; i < 40; i++) {
            int handle = made - (int) (random.nextDouble() * random.nextDouble() * (made + 1));
            if (model.handle(handle, 0) >= 0) {
                return handle;
            }
        }
        return upTo(made + 1);
    }

    private int directory(Model model) {
        for (int i = 0; i < 10; i++) {
            int node = random.nextInt(model.count(0) + 1);
            if (model.node(node, 2) == 1 || random.nextInt(12) == 0) {
                return node;
            }
        }
        return upTo(24);
    }

    private int mode() {
        int mode = random.nextInt(1024);
        if (random.nextInt(4) != 0) {
            mode &= ~ShareServer.FRESH;
        }
        if (random.nextInt(3) != 0) {
            mode &= ~ShareServer.REMOVES;
        }
        if (random.nextInt(3) == 0) {
            mode &= ~ShareServer.FOLDER;
        }
        if (sharing > 0 && random.nextInt(4) < sharing) {
            mode |= Due.SHARE_ALL;
        }
        return random.nextInt(60) == 0 ? mode + 1024 : mode;
    }
}
