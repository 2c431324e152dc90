import java.util.Random;

/** The longest runs that the document allows, and beyond: no call ever throws, for any arguments in any state. */
public final class LimitsTest {
    private static final int[] NUMBERS = {0, 0, 0, 1, 1, 1, 2, 3, 7, 8, 12, 15, 16, 24, 25, 31, 32, 63, 127, 383, 639, 1023};

    public static void main(String[] args) {
        Due due = new Due();
        requestsInEveryCall(due);
        manyWaitAtOnce(due);
        anyArguments();
        due.end();
    }

    private static void requestsInEveryCall(Due due) {
        ShareServer x = new ShareServer();
        for (int call = 1; call <= 512; call++) {
            due.is("open " + call, x.open(0, 0, 0, Due.ALL, 0), call);
        }
        due.is("the last of them", x.outcome(512), ShareServer.NOWHERE);
        // What these answer is free, but they must answer.
        for (int call = 513; call <= 2000; call++) {
            x.open(0, 0, 0, Due.NEW_FILE, 2);
        }
        ShareServer y = new ShareServer();
        for (int call = 1; call <= 511; call += 2) {
            due.is("open " + call, y.open(0, 0, 0, Due.NEW_FILE, 2), call / 2 + 1);
            due.is("close " + call, y.close(call / 2 + 1), 0);
        }
        due.is("handles made", y.count(6), 256);
    }

    private static void manyWaitAtOnce(Due due) {
        ShareServer x = new ShareServer();
        x.open(0, 0, 0, Due.NEW_FILE, 2);
        for (int request = 2; request <= 500; request++) {
            due.is("open", x.open(1, 0, 0, Due.ALL, 0), request);
        }
        due.is("they wait", x.count(2), 499);
        due.is("given up", x.giveUp(1), 1);
        due.is("eleven go on", x.count(1), 12);
        due.is("none waits", x.count(2), 0);
        due.is("the twelfth handle", x.outcome(12), 12);
        due.is("the rest found no room", x.outcome(13), ShareServer.FULL);
        due.is("to the last", x.outcome(500), ShareServer.FULL);
    }

    private static void anyArguments() {
        Random random = new Random(1);
        for (int run = 0; run < 200; run++) {
            ShareServer x = new ShareServer();
            for (int call = 0; call < 6000; call++) {
                anyCall(x, random);
            }
        }
    }

    private static int any(Random random) {
        int kind = random.nextInt(40);
        if (kind == 0) {
            return random.nextInt();
        }
        return kind == 1 ? Due.WILD[random.nextInt(Due.WILD.length)] : NUMBERS[random.nextInt(NUMBERS.length)];
    }

    /** A handle that may be open, however many were made. */
    private static int anyHandle(ShareServer x, Random random) {
        return random.nextInt(4) == 0 ? any(random) : x.count(6) - random.nextInt(14);
    }

    private static void anyCall(ShareServer x, Random random) {
        int a = any(random);
        int b = any(random);
        int c = any(random);
        boolean on = random.nextBoolean();
        int handle = anyHandle(x, random);
        switch (random.nextInt(18)) {
            case 0, 1 -> x.open(random.nextInt(4), random.nextInt(4), a, b, random.nextInt(3));
            case 2 -> x.open(a, b, c, any(random), any(random));
            case 3 -> x.outcome(a);
            case 4 -> x.cancel(a);
            case 5 -> x.giveUp(handle);
            case 6 -> x.close(handle);
            case 7 -> x.doom(handle, on);
            case 8 -> x.move(handle, a, b);
            case 9 -> x.read(handle, a);
            case 10 -> x.write(handle, a, b);
            case 11 -> x.lock(handle, a, b, on);
            case 12 -> x.unlock(handle, a, b);
            case 13 -> x.find(a, b);
            case 14 -> x.node(a, b);
            case 15 -> x.handle(handle, a);
            case 16 -> x.count(a);
            default -> {
                if (random.nextInt(20) == 0) {
                    x.crash();
                } else if (random.nextInt(10) == 0) {
                    x.sync();
                }
            }
        }
    }
}
