import java.util.ArrayList;
import java.util.List;
import java.util.Random;
import java.util.Set;
import java.util.TreeSet;

/** Long runs of calls, the same ones each time, on the program and on the model: all answers and all that can be seen agree. */
public final class ModelTest {
    private static final int RUNS = 400;
    private static final int CALLS = 512;
    /** Every kind of answer that a call can give; a run of the test that never meets one of them tests too little. */
    private static final Set<String> ANSWERS = Set.of(
        "open -1", "open +", "open: -2", "open: -3", "open: -4", "open: -5", "open: -6", "open: -7", "open: 0", "open: +",
        "outcome -1", "outcome -2", "outcome -3", "outcome -4", "outcome -5", "outcome -6", "outcome -7", "outcome -9",
        "outcome 0", "outcome +", "cancel -1", "cancel 0", "giveUp -1", "giveUp 0", "giveUp +", "close -1", "close 0",
        "close +", "doom -1", "doom 0", "move -1", "move -3", "move -4", "move -7", "move 0", "read -1", "read -8", "read 0",
        "write -1", "write -8", "write 0", "lock -1", "lock -2", "lock -8", "lock +", "unlock -1", "unlock 0", "unlock +",
        "sync +", "crash +", "find -1", "find -3", "find +");

    private final Random random;
    private final ShareServer x = new ShareServer();
    private final Model model = new Model();
    private final List<String> told = new ArrayList<>();
    private final Set<String> answers;
    /** Runs differ in how many names are in use, how much is shared, how often locks are alone and the state is lost. */
    private final int names;
    private final int sharing;
    private final int aloneLocks;
    private final int crashes;
    private int wrong;

    private ModelTest(long seed, Set<String> answers) {
        random = new Random(seed);
        this.answers = answers;
        names = 1 + random.nextInt(6);
        sharing = random.nextInt(4);
        aloneLocks = random.nextInt(3);
        crashes = random.nextInt(3);
    }

    public static void main(String[] args) {
        Set<String> answers = new TreeSet<>();
        for (int seed = 1; seed <= RUNS; seed++) {
            ModelTest test = new ModelTest(seed, answers);
            test.run();
            if (test.wrong > 0) {
                System.out.println("run " + seed + ":");
                test.told.forEach(System.out::println);
                System.exit(1);
            }
        }
        Set<String> missing = new TreeSet<>(ANSWERS);
        missing.removeAll(answers);
        if (!missing.isEmpty()) {
            System.out.println("answers that no run has met: " + missing);
            System.exit(1);
        }
        System.out.println("all answers are as due");
    }

    private void run() {
        for (int i = 0; i < CALLS && wrong == 0; i++) {
            call();
            if (i % 8 == 7 || random.nextInt(40) == 0) {
                lookAtAll();
            }
        }
        lookAtAll();
        readAll();
    }

    private int due(String name, String arguments, int got, int want) {
        told.add(name + "(" + arguments + ") = " + got + (got == want ? "" : ", due is " + want));
        wrong += got == want ? 0 : 1;
        answers.add(name + (got > 0 ? " +" : " " + got));
        return got;
    }

    private int upTo(int most) {
        return random.nextInt(25) == 0 ? random.nextInt(40) - 4 : random.nextInt(most + 1);
    }

    /** Most often an OPEN handle. */
    private int handle() {
        int made = model.count(6);
        for (int i = 0; i < 40; i++) {
            int handle = made - (int) (random.nextDouble() * random.nextDouble() * (made + 1));
            if (model.handle(handle, 0) >= 0) {
                return handle;
            }
        }
        return upTo(made + 1);
    }

    private int directory() {
        for (int i = 0; i < 10; i++) {
            int node = random.nextInt(model.count(0) + 1);
            if (model.node(node, 2) == 1 || random.nextInt(12) == 0) {
                return node;
            }
        }
        return upTo(24);
    }

    private int mode() {
        int mode = random.nextInt(1024);
        if (random.nextInt(4) != 0) {
            mode &= ~ShareServer.FRESH;
        }
        if (random.nextInt(3) != 0) {
            mode &= ~ShareServer.REMOVES;
        }
        if (random.nextInt(3) == 0) {
            mode &= ~ShareServer.FOLDER;
        }
        if (sharing > 0 && random.nextInt(4) < sharing) {
            mode |= Due.SHARE_ALL;
        }
        return random.nextInt(60) == 0 ? mode + 1024 : mode;
    }

    private void call() {
        int kind = random.nextInt(100);
        if (kind < 34) {
            callOpen();
        } else if (kind < 48) {
            callOnHandles(kind);
        } else if (kind < 96) {
            callOnContents(kind);
        } else if (kind < 97 && crashes > 0 && random.nextInt(3) < crashes) {
            due("crash", "", x.crash(), model.crash());
        } else if (kind < 98) {
            due("sync", "", x.sync(), model.sync());
        } else {
            int request = upTo(model.count(5) + 1);
            due("cancel", "" + request, x.cancel(request), model.cancel(request));
        }
    }

    private void callOpen() {
        int client = upTo(3);
        int directory = directory();
        int name = upTo(names);
        int mode = mode();
        int wish = upTo(2);
        String arguments = client + ", " + directory + ", " + name + ", " + mode + ", " + wish;
        int request = due("open", arguments, x.open(client, directory, name, mode, wish),
            model.open(client, directory, name, mode, wish));
        if (request > 0) {
            due("open:", "outcome " + request, x.outcome(request), model.outcome(request));
        }
    }

    private void callOnHandles(int kind) {
        int handle = handle();
        if (kind < 38) {
            due("giveUp", "" + handle, x.giveUp(handle), model.giveUp(handle));
        } else {
            due("close", "" + handle, x.close(handle), model.close(handle));
        }
    }

    private void callOnContents(int kind) {
        int handle = handle();
        int a = upTo(31);
        int b = random.nextInt(3) == 0 ? upTo(32) : upTo(4);
        boolean on = random.nextBoolean();
        if (kind < 54) {
            due("doom", handle + ", " + on, x.doom(handle, on), model.doom(handle, on));
        } else if (kind < 62) {
            int directory = directory();
            int name = upTo(names);
            due("move", handle + ", " + directory + ", " + name, x.move(handle, directory, name),
                model.move(handle, directory, name));
        } else if (kind < 70) {
            due("read", handle + ", " + a, x.read(handle, a), model.read(handle, a));
        } else if (kind < 80) {
            int value = random.nextInt();
            due("write", handle + ", " + a + ", " + value, x.write(handle, a, value), model.write(handle, a, value));
        } else if (kind < 91) {
            callLock(handle, a, b);
        } else {
            unlockOne(handle);
        }
        due("value", "", x.value(), model.value());
    }

    /** Several at a time now and then, or a file would never have eight. */
    private void callLock(int handle, int first, int n) {
        boolean alone = random.nextInt(4) < aloneLocks;
        int times = random.nextInt(8) == 0 ? 6 : 1;
        for (int i = 0; i < times; i++) {
            due("lock", handle + ", " + (first + i) + ", " + n + ", " + alone, x.lock(handle, first + i, n, alone),
                model.lock(handle, first + i, n, alone));
        }
    }

    /** Tries ranges until one is there, for few of them are. */
    private void unlockOne(int handle) {
        for (int i = 0; i < 60; i++) {
            int first = upTo(31);
            int n = upTo(4);
            int left = due("unlock", handle + ", " + first + ", " + n, x.unlock(handle, first, n),
                model.unlock(handle, first, n));
            if (left >= 0) {
                return;
            }
            told.remove(told.size() - 1);
        }
    }

    private void lookAtAll() {
        for (int what = -1; what <= 7; what++) {
            due("count", "" + what, x.count(what), model.count(what));
            for (int node = -1; node <= 25; node++) {
                due("node", node + ", " + what, x.node(node, what), model.node(node, what));
            }
            for (int handle = Math.max(0, model.count(6) - 40); handle <= model.count(6) + 1; handle++) {
                due("handle", handle + ", " + what, x.handle(handle, what), model.handle(handle, what));
            }
        }
        for (int directory = -1; directory <= 25; directory++) {
            for (int name = -1; name <= 16; name++) {
                due("find", directory + ", " + name, x.find(directory, name), model.find(directory, name));
            }
        }
        for (int request = 0; request <= model.count(5) + 1; request++) {
            due("outcome", "" + request, x.outcome(request), model.outcome(request));
        }
        told.removeIf(line -> !line.contains("due") && isLook(line));
    }

    private static boolean isLook(String line) {
        return line.startsWith("count") || line.startsWith("node") || line.startsWith("handle") || line.startsWith("find")
            || line.startsWith("outcome");
    }

    private void readAll() {
        for (int handle = 1; handle <= model.count(6); handle++) {
            for (int cell = 0; cell < 32 && model.handle(handle, 0) > 0; cell++) {
                due("read", handle + ", " + cell, x.read(handle, cell), model.read(handle, cell));
                due("value", "", x.value(), model.value());
            }
        }
    }
}
