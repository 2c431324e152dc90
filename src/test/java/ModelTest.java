import java.util.ArrayList;
import java.util.List;
import java.util.Set;
import java.util.TreeSet;

/** Runs of 512 calls, the same ones each time, on the program and on the model: all answers agree. */
public final class ModelTest {
    private static final int RUNS = 3000;
    /** An object is used for so many calls; what later ones answer is free, so that they can't be compared. */
    private static final int CALLS = 512;
    /** Every kind of answer that a call can give; a run of the test that never meets one of them tests too little. */
    private static final Set<String> ANSWERS = Set.of(
        "open -1", "open +", "outcome -1", "outcome -2", "outcome -3", "outcome -4", "outcome -5", "outcome -6", "outcome -7",
        "outcome -9", "outcome 0", "outcome +", "cancel -1", "cancel 0", "giveUp -1", "giveUp 0", "giveUp +", "close -1",
        "close 0", "close +", "doom -1", "doom 0", "move -1", "move -3", "move -4", "move -7", "move 0", "read -1", "read -8",
        "read 0", "write -1", "write -8", "write 0", "lock -1", "lock -2", "lock -8", "lock +", "unlock -1", "unlock 0",
        "unlock +", "sync +", "crash +", "find -1", "find -3", "find +", "node -1", "node -3", "node 0", "node +", "handle -1",
        "handle 0", "handle +", "count -1", "count 0", "count +");

    private final RandomCalls calls;
    private final ShareServer x = new ShareServer();
    private final Model model = new Model();
    private final List<String> told = new ArrayList<>();
    private final Set<String> answers;
    private boolean wrong;

    private ModelTest(long seed, Set<String> answers) {
        calls = new RandomCalls(seed);
        this.answers = answers;
    }

    public static void main(String[] args) {
        Set<String> answers = new TreeSet<>();
        for (int seed = 1; seed <= RUNS; seed++) {
            ModelTest test = new ModelTest(seed, answers);
            test.run();
            if (test.wrong) {
                System.out.println("run " + seed + ":");
                test.told.forEach(System.out::println);
                System.exit(1);
            }
        }
        Set<String> missing = new TreeSet<>(ANSWERS);
        missing.removeAll(answers);
        if (!missing.isEmpty()) {
            System.out.println("answers that no run has met: " + missing);
            System.exit(1);
        }
        System.out.println("all answers are as due");
    }

    /** So many calls that change, with looks at some things in between, and then looks at as much as there is room for. */
    private void run() {
        int changing = 20 + calls.below(420);
        while (told.size() < changing) {
            if (calls.below(60) == 0) {
                calls.manyLocks(model).forEach(this::make);
            } else {
                make(calls.change(model));
            }
            if (calls.below(8) == 0) {
                make(new Call("value"));
                calls.looks(model).subList(0, 5).forEach(this::make);
            }
        }
        calls.looks(model).forEach(this::make);
    }

    private void make(Call call) {
        if (wrong || told.size() == CALLS) {
            return;
        }
        int got = call.on(x);
        int want = call.on(model);
        told.add(call + " = " + got + (got == want ? "" : ", due is " + want));
        wrong = got != want;
        answers.add(call.name + (got > 0 ? " +" : " " + got));
    }
}
