import java.util.List;

/**
 * Every call that takes numbers, with the limits of each number, and what is due from it on one
 * watch that is simple enough to be answered by a line.
 */
final class Calls {
    static final int NONE = -1;
    static final int[] WILD = {Integer.MIN_VALUE, Integer.MIN_VALUE + 1, Integer.MAX_VALUE - 1, Integer.MAX_VALUE};

    private Calls() {
    }

    /** A kind of number that calls take: the last value that is allowed on both ends. */
    enum Kind {
        SPEED(7), THING(5), TICK(79), PLACE(4095), RADIUS(63), GROUND(3), DELAY(79),
        WHAT_OF_WHERE(4), LEAST_OR_MOST(1), WHAT_OF_COUNT(2);

        final int low = 0;
        final int high;

        Kind(int high) {
            this.high = high;
        }

        boolean allows(int value) {
            return value >= low && value <= high;
        }

        /** The first values that are not allowed, and some that are far away. */
        int[] wrongs() {
            return new int[] {low - 1, high + 1, WILD[0], WILD[1], WILD[2], WILD[3]};
        }
    }

    interface Maker {
        OverLine make();
    }

    interface Asking {
        int ask(OverLine watch, int[] numbers);
    }

    interface Answer {
        int of(int[] numbers);
    }

    /** The answer is for numbers that are all allowed; usual ones are, and aren't refused. */
    record Call(String name, List<Kind> kinds, int refusal, Maker maker, Asking asking, Answer answer, int... usual) {
        int due(int[] numbers) {
            for (int i = 0; i < numbers.length; i++) {
                if (!kinds.get(i).allows(numbers[i])) {
                    return refusal;
                }
            }
            return answer.of(numbers);
        }

        String with(int[] numbers) {
            StringBuilder text = new StringBuilder(name).append('(');
            for (int i = 0; i < numbers.length; i++) {
                text.append(i == 0 ? "" : ", ").append(numbers[i]);
            }
            return text.append(')').toString();
        }
    }

    static int toInt(boolean answer) {
        return answer ? 1 : 0;
    }

    /**
     * THINGS that stand still at i, 2 * i, each with one SIGHT and i JUMPS; all GROUNDS, each with
     * the two rows that the THINGS g and g + 4 stand in.
     */
    static OverLine watch(int things) {
        OverLine x = new OverLine();
        for (int i = 0; i < things; i++) {
            x.thing(0);
            x.see(i, 40, Check.at(i, 2 * i), 0);
            for (int j = 0; j < i; j++) {
                x.see(i, 40, 4095, 0);
            }
        }
        for (int g = 0; g < 4; g++) {
            x.ground();
            x.draw(g, Check.at(g, 0), Check.at(g, 63), true);
            x.draw(g, Check.at(g + 4, 0), Check.at(g + 4, 63), true);
        }
        return x;
    }

    private static boolean isIn(int x, int ground) {
        return x == ground || x == ground + 4;
    }

    private static int seeDue(int[] n) {
        int farX = Math.abs(n[2] / 64 - n[0]);
        int farY = Math.abs(n[2] % 64 - 2 * n[0]);
        return Math.max(farX, farY) <= n[3] ? 2 : NONE;
    }

    private static int drawDue(int[] n, boolean in) {
        if (n[2] / 64 < n[1] / 64 || n[2] % 64 < n[1] % 64) {
            return NONE;
        }
        int wide = n[2] % 64 - n[1] % 64 + 1;
        int all = 128;
        for (int x = n[1] / 64; x <= n[2] / 64; x++) {
            if (in != isIn(x, n[0])) {
                all += in ? wide : -wide;
            }
        }
        return all;
    }

    private static int whereDue(int[] n) {
        return new int[] {n[0], n[0], 2 * n[0], 2 * n[0], 1}[n[2]];
    }

    private static int enteredDue(int[] n) {
        return n[2] <= n[3] && isIn(n[0], n[1]) ? n[2] : NONE;
    }

    private static int stayDue(int[] n) {
        if (n[2] > n[3]) {
            return NONE;
        }
        return isIn(n[0], n[1]) ? n[3] - n[2] + 1 : 0;
    }

    static List<Call> all() {
        Maker full = () -> watch(6);
        List<Kind> drawn = List.of(Kind.GROUND, Kind.PLACE, Kind.PLACE);
        List<Kind> stretch = List.of(Kind.THING, Kind.GROUND, Kind.TICK, Kind.TICK);
        List<Kind> stretchWhat = List.of(Kind.THING, Kind.GROUND, Kind.TICK, Kind.TICK, Kind.LEAST_OR_MOST);
        return List.of(
            new Call("thing", List.of(Kind.SPEED), NONE, () -> watch(5),
                (x, n) -> x.thing(n[0]), n -> 5, 1),
            new Call("see", List.of(Kind.THING, Kind.TICK, Kind.PLACE, Kind.RADIUS), NONE, full,
                (x, n) -> x.see(n[0], n[1], n[2], n[3]), Calls::seeDue, 1, 2, Check.at(1, 2), 3),
            new Call("back", List.of(Kind.THING), 0, full,
                (x, n) -> toInt(x.back(n[0])), n -> 1, 1),
            new Call("jumps", List.of(Kind.THING), NONE, full,
                (x, n) -> x.jumps(n[0]), n -> n[0], 1),
            new Call("where", List.of(Kind.THING, Kind.TICK, Kind.WHAT_OF_WHERE), NONE, full,
                (x, n) -> x.where(n[0], n[1], n[2]), Calls::whereDue, 1, 2, 3),
            new Call("draw in", drawn, NONE, full,
                (x, n) -> x.draw(n[0], n[1], n[2], true), n -> drawDue(n, true), 1, 0, 4095),
            new Call("draw out", drawn, NONE, full,
                (x, n) -> x.draw(n[0], n[1], n[2], false), n -> drawDue(n, false), 1, 0, 4095),
            new Call("has", List.of(Kind.GROUND, Kind.PLACE), 0, full,
                (x, n) -> toInt(x.has(n[0], n[1])), n -> toInt(isIn(n[1] / 64, n[0])), 1, 64),
            new Call("state", List.of(Kind.THING, Kind.GROUND, Kind.TICK), NONE, full,
                (x, n) -> x.state(n[0], n[1], n[2]), n -> isIn(n[0], n[1]) ? 2 : 0, 1, 1, 2),
            new Call("entered", stretch, NONE, full,
                (x, n) -> x.entered(n[0], n[1], n[2], n[3]), Calls::enteredDue, 1, 1, 0, 79),
            new Call("stay", stretchWhat, NONE, full,
                (x, n) -> x.stay(n[0], n[1], n[2], n[3], n[4]), Calls::stayDue, 1, 1, 0, 79, 0),
            new Call("look", List.of(Kind.THING, Kind.GROUND, Kind.TICK, Kind.DELAY), NONE, full,
                (x, n) -> x.look(n[0], n[1], n[2], n[3]), n -> isIn(n[0], n[1]) ? NONE : 79, 1, 2, 3, 4),
            new Call("apart", List.of(Kind.THING, Kind.THING, Kind.TICK, Kind.LEAST_OR_MOST), NONE, full,
                (x, n) -> x.apart(n[0], n[1], n[2], n[3]), n -> n[0] == n[1] ? NONE : 2 * Math.abs(n[0] - n[1]), 1, 2, 3, 0),
            new Call("count", List.of(Kind.WHAT_OF_COUNT), NONE, full,
                (x, n) -> x.count(n[0]), n -> n[0] == 2 ? 4 : 6, 0));
    }
}
