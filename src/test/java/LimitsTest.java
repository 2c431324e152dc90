import java.util.Random;

/** The longest runs that the document allows, and beyond: no call ever throws, for any arguments in any state. */
public final class LimitsTest {
    private static final int[] NUMBERS = {0, 0, 0, 1, 1, 1, 2, 3, 7, 8, 12, 15, 16, 24, 25, 31, 32, 63, 127, 383, 639, 1023};

    public static void main(String[] args) {
        Due due = new Due();
        everyCallIsARequest(due);
        everyCallChanges(due);
        everyCallOpensOrCloses(due);
        manyWaitAtOnce(due);
        manyAreLostAtOnce(due);
        beyondTheLastCall();
        anyArguments();
        due.end();
    }

    private static void everyCallIsARequest(Due due) {
        due.sentence("What it is", "An object is used for at most 512 calls after it has been made");
        ShareServer x = new ShareServer();
        for (int call = 1; call <= 512; call++) {
            due.is("open, call " + call, x.open(call % 4, 0, 0, Due.ALL, 0), call);
        }
        ShareServer y = new ShareServer();
        for (int call = 1; call <= 511; call++) {
            due.is("open, call " + call, y.open(0, 0, 0, call == 511 ? Due.NEW_FILE : Due.ALL, 0), call);
        }
        due.is("the last outcome, call 512", y.outcome(511), 1);
    }

    private static void everyCallChanges(Due due) {
        due.sentence("What it is", "An object is used for at most 512 calls [each of which writes, or moves]");
        ShareServer x = new ShareServer();
        x.open(0, 0, 0, Due.NEW_FILE, 2);
        for (int call = 2; call <= 511; call++) {
            due.is("call " + call, call % 2 == 0 ? x.write(1, call % 32, call) : x.move(1, 0, call / 2 % 16), 0);
        }
        due.is("changes, call 512", x.count(3), 511);
        ShareServer y = new ShareServer();
        y.open(0, 0, 0, Due.NEW_FILE, 2);
        for (int call = 2; call <= 510; call++) {
            due.is("call " + call, y.write(1, 31, call), 0);
        }
        due.is("all are durable, call 511", y.count(4), 510);
        due.is("left, call 512", y.crash(), 510);
    }

    private static void everyCallOpensOrCloses(Due due) {
        due.sentence("What it is", "An object is used for at most 512 calls [each of which opens or closes, locks or unlocks]");
        ShareServer x = new ShareServer();
        for (int call = 1; call <= 509; call += 2) {
            due.is("open, call " + call, x.open(0, 0, 0, Due.NEW_FILE, 2), call / 2 + 1);
            due.is("close, call " + (call + 1), x.close(call / 2 + 1), 0);
        }
        due.is("handles made, call 511", x.count(6), 255);
        due.is("numbers given, call 512", x.count(0), 1);
        ShareServer y = new ShareServer();
        y.open(0, 0, 0, Due.NEW_FILE, 2);
        for (int call = 2; call <= 511; call += 2) {
            due.is("lock, call " + call, y.lock(1, call % 32, 1, true), 1);
            due.is("unlock, call " + (call + 1), y.unlock(1, call % 32, 1), 0);
        }
        due.is("locks, call 512", y.node(1, 5), 0);
    }

    private static void manyWaitAtOnce(Due due) {
        due.sentence("What it is", "An object is used for at most 512 calls [most of which wait]");
        ShareServer x = new ShareServer();
        x.open(0, 0, 0, Due.NEW_FILE, 2);
        for (int request = 2; request <= 505; request++) {
            due.is("open", x.open(1, 0, 0, Due.ALL, 0), request);
        }
        due.is("they wait", x.count(2), 504);
        due.is("given up", x.giveUp(1), 1);
        due.is("eleven go on", x.count(1), 12);
        due.is("none waits", x.count(2), 0);
        due.is("the twelfth handle", x.outcome(12), 12);
        due.is("the rest found no room", x.outcome(13), ShareServer.FULL);
        due.is("to the last", x.outcome(505), ShareServer.FULL);
    }

    private static void manyAreLostAtOnce(Due due) {
        due.sentence("What it is", "An object is used for at most 512 calls [most of which wait, up to a crash]");
        ShareServer x = new ShareServer();
        x.open(0, 0, 0, Due.NEW_FILE, 2);
        for (int request = 2; request <= 507; request++) {
            due.is("open", x.open(1, 0, 0, Due.ALL, 0), request);
        }
        due.is("crash", x.crash(), 0);
        due.is("the first that waited", x.outcome(2), ShareServer.LOST);
        due.is("the last that waited", x.outcome(507), ShareServer.LOST);
        due.is("none waits", x.count(2), 0);
        due.is("handles made", x.count(6), 1);
    }

    /** What these answer is free, but they must answer. */
    private static void beyondTheLastCall() {
        ShareServer x = new ShareServer();
        for (int call = 1; call <= 2000; call++) {
            x.open(0, 0, 0, Due.NEW_FILE, 2);
        }
        x.close(1);
        x.crash();
        x.open(0, 0, 0, Due.NEW_FILE, 2);
    }

    private static void anyArguments() {
        Random random = new Random(1);
        for (int run = 0; run < 200; run++) {
            ShareServer x = new ShareServer();
            for (int call = 0; call < 6000; call++) {
                anyCall(x, random);
            }
        }
    }

    private static int any(Random random) {
        int kind = random.nextInt(40);
        if (kind == 0) {
            return random.nextInt();
        }
        return kind == 1 ? Due.WILD[random.nextInt(Due.WILD.length)] : NUMBERS[random.nextInt(NUMBERS.length)];
    }

    /** A handle that may be open, however many were made. */
    private static int anyHandle(ShareServer x, Random random) {
        return random.nextInt(4) == 0 ? any(random) : x.count(6) - random.nextInt(14);
    }

    private static void anyCall(ShareServer x, Random random) {
        int a = any(random);
        int b = any(random);
        int c = any(random);
        boolean on = random.nextBoolean();
        int handle = anyHandle(x, random);
        switch (random.nextInt(18)) {
            case 0, 1 -> x.open(random.nextInt(4), random.nextInt(4), a, b, random.nextInt(3));
            case 2 -> x.open(a, b, c, any(random), any(random));
            case 3 -> x.outcome(a);
            case 4 -> x.cancel(a);
            case 5 -> x.giveUp(handle);
            case 6 -> x.close(handle);
            case 7 -> x.doom(handle, on);
            case 8 -> x.move(handle, a, b);
            case 9 -> x.read(handle, a);
            case 10 -> x.write(handle, a, b);
            case 11 -> x.lock(handle, a, b, on);
            case 12 -> x.unlock(handle, a, b);
            case 13 -> x.find(a, b);
            case 14 -> x.node(a, b);
            case 15 -> x.handle(handle, a);
            case 16 -> x.count(a);
            default -> {
                if (random.nextInt(20) == 0) {
                    x.crash();
                } else if (random.nextInt(10) == 0) {
                    x.sync();
                }
            }
        }
    }
}
