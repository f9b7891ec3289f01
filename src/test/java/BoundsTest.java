import java.util.List;

/**
 * The limits that the document names, one by one, in every call that takes such a number: the last
 * value that is allowed and the first that isn't, on both ends. No object is asked more than 512 times.
 */
public final class BoundsTest {
    private static final Check check = new Check();
    private static final List<Calls.Call> CALLS = Calls.all();
    private static final int CALLS_OF_AN_OBJECT = 512;
    private static final int CALLS_TO_MAKE_ONE = 40;

    public static void main(String[] args) {
        everyCallIsInTheTable();
        speedsAre0To7();
        thingsHaveNumbers0To5();
        ticksAre0To79();
        placesAre0To4095();
        radiiAre0To63();
        groundsHaveNumbers0To3();
        delaysAre0To79();
        whereIsAsked0To4();
        leastAndMostAre0And1();
        countIsAsked0To2();
        thingsAndGroundsThatHaventCome();
        wrongNumbersTogether();
        check.end();
    }

    private static void everyCallIsInTheTable() {
        check.due("calls: all but ground(), draw twice", CALLS.size(), 14);
        for (Calls.Call call : CALLS) {
            int got = call.asking().ask(call.maker().make(), call.usual());
            check.due(call.with(call.usual()) + ", usual numbers", got, call.due(call.usual()));
            check.due(call.with(call.usual()) + " isn't refused", got == call.refusal(), false);
        }
    }

    /** "each with a SPEED (0 .. 7)"; "NONE if SPEED can't be". */
    private static void speedsAre0To7() {
        check.due("calls with a speed", sweep(Calls.Kind.SPEED), 1);
    }

    /** "THINGS have numbers as they come, at most 6"; "NONE if there is no such THING". */
    private static void thingsHaveNumbers0To5() {
        check.due("calls with things", sweep(Calls.Kind.THING), 10);
    }

    /** "TICKS are 0 .. 79". */
    private static void ticksAre0To79() {
        check.due("calls with ticks", sweep(Calls.Kind.TICK), 9);
    }

    /** "places x, y (0 .. 63 each)"; "Where is x * 64 + y (0 .. 4095)". */
    private static void placesAre0To4095() {
        check.due("calls with places", sweep(Calls.Kind.PLACE), 6);
    }

    /** "a RADIUS (0 .. 63)". */
    private static void radiiAre0To63() {
        check.due("calls with a radius", sweep(Calls.Kind.RADIUS), 1);
    }

    /** "GROUNDS have numbers as they come, at most 4". */
    private static void groundsHaveNumbers0To3() {
        check.due("calls with grounds", sweep(Calls.Kind.GROUND), 7);
    }

    /** "NONE if .. DELAY isn't 0 .. 79". */
    private static void delaysAre0To79() {
        check.due("calls with a delay", sweep(Calls.Kind.DELAY), 1);
    }

    /** where: "0 the least x, .. 4 at how many places. NONE for others". */
    private static void whereIsAsked0To4() {
        check.due("where", sweep(Calls.Kind.WHAT_OF_WHERE), 1);
    }

    /** stay and apart: "the least (what 0) or the most (1)". */
    private static void leastAndMostAre0And1() {
        check.due("stay and apart", sweep(Calls.Kind.LEAST_OR_MOST), 2);
    }

    /** count: "0 THINGS, 1 SIGHTS of all, 2 GROUNDS. NONE for others." */
    private static void countIsAsked0To2() {
        check.due("count", sweep(Calls.Kind.WHAT_OF_COUNT), 1);
    }

    /** Answers how many arguments of this kind there are, so that none is passed over. */
    private static int sweep(Calls.Kind kind) {
        int arguments = 0;
        for (Calls.Call call : CALLS) {
            for (int i = 0; i < call.kinds().size(); i++) {
                if (call.kinds().get(i) == kind) {
                    arguments++;
                    sweep(call, i, kind);
                }
            }
        }
        return arguments;
    }

    private static void sweep(Calls.Call call, int argument, Calls.Kind kind) {
        for (int value = kind.low; value <= kind.high; value++) {
            dueWith(call, argument, value);
        }
        for (int value : kind.wrongs()) {
            dueWith(call, argument, value);
        }
    }

    private static void dueWith(Calls.Call call, int argument, int value) {
        int[] numbers = call.usual().clone();
        numbers[argument] = value;
        check.due(call.with(numbers), call.asking().ask(call.maker().make(), numbers), call.due(numbers));
    }

    /** A number that will be a THING's or a GROUND's is none before that came. */
    private static void thingsAndGroundsThatHaventCome() {
        for (int came = 0; came < 4; came++) {
            for (Calls.Call call : CALLS) {
                for (int i = 0; i < call.kinds().size(); i++) {
                    Calls.Kind kind = call.kinds().get(i);
                    if (kind != Calls.Kind.THING && kind != Calls.Kind.GROUND) {
                        continue;
                    }
                    int[] numbers = new int[call.kinds().size()];
                    numbers[i] = came;
                    OverLine x = withOnly(kind == Calls.Kind.THING ? came : 4, kind == Calls.Kind.GROUND ? came : 4);
                    check.due(call.with(numbers) + " with " + came, call.asking().ask(x, numbers), call.refusal());
                }
            }
        }
    }

    private static OverLine withOnly(int things, int grounds) {
        OverLine x = new OverLine();
        for (int i = 0; i < things; i++) {
            x.thing(0);
            x.see(i, 0, 0, 0);
        }
        for (int i = 0; i < grounds; i++) {
            x.ground();
            x.draw(i, 0, 4095, true);
        }
        return x;
    }

    /** Each number at its ends, just beyond them and far beyond, with all others so. */
    private static void wrongNumbersTogether() {
        for (Calls.Call call : CALLS) {
            int[] place = new int[call.kinds().size()];
            OverLine watch = call.maker().make();
            int left = CALLS_OF_AN_OBJECT - CALLS_TO_MAKE_ONE;
            boolean more = true;
            while (more) {
                int[] numbers = numbersAt(call, place);
                int due = call.due(numbers);
                check.due(call.with(numbers), call.asking().ask(watch, numbers), due);
                left--;
                // What isn't refused may have changed the watch.
                if (due != call.refusal() || left == 0) {
                    watch = call.maker().make();
                    left = CALLS_OF_AN_OBJECT - CALLS_TO_MAKE_ONE;
                }
                more = goOn(call, place);
            }
        }
    }

    private static int[] values(Calls.Kind kind) {
        return new int[] {kind.low, kind.high, kind.low - 1, kind.high + 1, Integer.MIN_VALUE, Integer.MAX_VALUE};
    }

    private static int[] numbersAt(Calls.Call call, int[] place) {
        int[] numbers = new int[place.length];
        for (int i = 0; i < place.length; i++) {
            numbers[i] = values(call.kinds().get(i))[place[i]];
        }
        return numbers;
    }

    private static boolean goOn(Calls.Call call, int[] place) {
        for (int i = 0; i < place.length; i++) {
            place[i]++;
            if (place[i] < values(call.kinds().get(i)).length) {
                return true;
            }
            place[i] = 0;
        }
        return false;
    }
}
