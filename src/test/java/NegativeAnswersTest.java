import java.util.ArrayList;
import java.util.List;

/**
 * Terms, 'A call that answers a negative number changes nothing': a run of calls is made once more on a new object without
 * those that answered a negative number; all that are left answer the same. The last calls only look, and are all made.
 */
public final class NegativeAnswersTest {
    private static final int RUNS = 3000;
    private static final int CALLS = 512;
    private static final int LAST_LOOKS = 100;

    private final List<Call> made = new ArrayList<>();
    private final List<Integer> answered = new ArrayList<>();
    private final ShareServer x = new ShareServer();
    private final Model model = new Model();

    public static void main(String[] args) {
        Due due = new Due();
        due.sentence("Terms", "A call that answers a negative number changes nothing");
        int left = 0;
        for (int seed = 1; seed <= RUNS; seed++) {
            NegativeAnswersTest test = new NegativeAnswersTest();
            test.run(new RandomCalls(100000 + seed));
            left += test.again(due, seed);
        }
        due.is("many negative answers were met", left > RUNS * 20 ? 1 : 0, 1);
        due.end();
    }

    private void run(RandomCalls calls) {
        int changing = 100 + calls.below(300);
        while (made.size() < changing) {
            make(calls.change(model));
            if (calls.below(12) == 0) {
                calls.looks(model).subList(0, 3).forEach(this::make);
            }
        }
        calls.looks(model).forEach(this::make);
    }

    private void make(Call call) {
        if (made.size() < CALLS) {
            made.add(call);
            answered.add(call.on(x));
            call.on(model);
        }
    }

    /** Answers how many calls were left out. */
    private int again(Due due, int run) {
        ShareServer y = new ShareServer();
        int left = 0;
        for (int i = 0; i < made.size(); i++) {
            if (answered.get(i) < 0 && i < made.size() - LAST_LOOKS) {
                left++;
            } else {
                due.is("run " + run + ", call " + i + ", " + made.get(i) + ", without those", made.get(i).on(y), answered.get(i));
            }
        }
        return left;
    }
}
