import java.util.Random;

/**
 * "An object is used for at most 512 calls after it has been made": the 512th is answered as the first
 * is, whatever the calls before it were. What comes later may answer anything, but ends without a throw.
 */
public final class LifeTest {
    private static final Check check = new Check();
    private static final int LAST_CALL = 512;
    private static final int TO_MAKE_THE_WATCH = 39;
    // Even, so that what comes and goes has gone in the end.
    private static final int BEFORE_THE_LAST = LAST_CALL - 1 - TO_MAKE_THE_WATCH;

    private interface Step {
        void take(OverLine watch, int number);
    }

    public static void main(String[] args) {
        theLastCallBehindQuestions();
        theLastCallBehindSightsThatComeAndGo();
        theLastCallBehindJumps();
        theLastCallBehindDraws();
        theLastCallBehindRefusals();
        jumpsUpToTheLastCall();
        laterCallsEnd();
        check.end();
    }

    private static void dueAsLast(String behind, Step step, int jumpsOfThing1) {
        for (Calls.Call call : Calls.all()) {
            OverLine x = call.maker().make();
            for (int i = 0; i < BEFORE_THE_LAST; i++) {
                step.take(x, i);
            }
            int more = call.name().equals("jumps") ? jumpsOfThing1 : 0;
            int[] numbers = call.usual();
            check.due(call.with(numbers) + " behind " + behind, call.asking().ask(x, numbers), call.due(numbers) + more);
        }
    }

    private static void theLastCallBehindQuestions() {
        dueAsLast("stays", (x, i) -> x.stay(i % 6, i % 4, i % 40, 40 + i % 40, i % 2), 0);
        dueAsLast("entries", (x, i) -> x.entered(i % 6, i % 4, i % 40, 40 + i % 40), 0);
        dueAsLast("looks", (x, i) -> x.look(i % 6, i % 4, i % 80, i % 80), 0);
    }

    private static void theLastCallBehindSightsThatComeAndGo() {
        dueAsLast("sights that come and go", (x, i) -> {
            if (i % 2 == 0) {
                x.see(1, i % 80, Check.at(1, 2), i % 64);
            } else {
                x.back(1);
            }
        }, 0);
    }

    private static void theLastCallBehindJumps() {
        dueAsLast("jumps", (x, i) -> x.see(1, i % 80, 4095, i % 61), BEFORE_THE_LAST);
    }

    private static void theLastCallBehindDraws() {
        dueAsLast("draws", (x, i) -> x.draw(1, Check.at(10, 0), Check.at(10 + i % 50, 63), i % 2 == 0), 0);
        dueAsLast("draws of all", (x, i) -> x.draw(3, 0, 4095, i % 2 == 0), 0);
    }

    private static void theLastCallBehindRefusals() {
        dueAsLast("refused sights", (x, i) -> x.see(1, -1 - i, 0, 0), 0);
        dueAsLast("refused things", (x, i) -> x.thing(8 + i), 0);
        dueAsLast("refused grounds", (x, i) -> x.ground(), 0);
    }

    private static void jumpsUpToTheLastCall() {
        OverLine x = new OverLine();
        x.thing(0);
        x.see(0, 0, 0, 0);
        for (int i = 3; i < LAST_CALL; i++) {
            check.due("call " + i, x.see(0, i % 80, 4095, i % 63), -1);
        }
        check.due("call 512", x.jumps(0), LAST_CALL - 3);
    }

    private static void laterCallsEnd() {
        Random random = new Random(1);
        int[] wild = {Integer.MIN_VALUE, -64, -1, 0, 1, 2, 3, 4, 5, 6, 7, 11, 12, 40, 63, 64, 79, 80, 650, 4095, 4096, Integer.MAX_VALUE};
        OverLine x = new OverLine();
        int rounds = 0;
        while (rounds < 20000) {
            for (Calls.Call call : Calls.all()) {
                int[] numbers = new int[call.kinds().size()];
                for (int j = 0; j < numbers.length; j++) {
                    numbers[j] = wild[random.nextInt(wild.length)];
                }
                call.asking().ask(x, numbers);
            }
            x.ground();
            rounds++;
        }
        check.due("rounds that ended", rounds, 20000);
    }
}
