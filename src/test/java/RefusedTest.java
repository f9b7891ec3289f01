import java.util.List;

/**
 * "What is refused changes nothing.": after each call that is refused all that later calls show is as
 * on a watch that was never asked so. The same holds for calls that only ask.
 */
public final class RefusedTest {
    private static final Check check = new Check();
    private static final List<Shown.Part> PARTS = Shown.parts();

    private interface Asked {
        int ask(OverLine watch);
    }

    public static void main(String[] args) {
        theWatchesAreAsTold();
        wrongNumbers();
        wrongNumbersOnANewObject();
        thingWhenSixCame();
        thingOfAWrongSpeed();
        sightWhenThingHas12();
        jump();
        backOfNone();
        groundWhenFourCame();
        drawWithASecondCornerThatIsLess();
        stretchWithAAboveB();
        enteredByNotEachMotion();
        lookFromATickThatIsntOut();
        apartOfOne();
        questions();
        check.end();
    }

    /** Each thing has a speed and sights of its own; thing 0 has 12 sights, thing 5 has none. */
    private static OverLine watch() {
        OverLine x = new OverLine();
        for (int speed = 1; speed <= 6; speed++) {
            x.thing(speed);
        }
        for (int i = 0; i < 12; i++) {
            x.see(0, 6 * i + 3, Check.at(20 + i, 30 - i), 5 + i % 3);
        }
        for (int thing = 1; thing < 5; thing++) {
            x.see(thing, 40, Check.at(10 * thing, 50), thing);
            x.see(thing, 10 + thing, Check.at(10 * thing, 20), 5);
            x.see(thing, 40, 63, 0);
        }
        for (int ground = 0; ground < 4; ground++) {
            x.ground();
            x.draw(ground, Check.at(5 * ground, 4), Check.at(5 * ground + 20, 40), true);
            x.draw(ground, Check.at(12, 5 * ground), Check.at(14, 63), ground % 2 == 0);
        }
        return x;
    }

    private static OverLine lessThanFull() {
        OverLine x = new OverLine();
        x.thing(2);
        x.thing(0);
        x.ground();
        x.draw(0, Check.at(10, 10), Check.at(30, 30), true);
        x.see(0, 20, Check.at(12, 30), 4);
        x.see(0, 50, Check.at(30, 8), 2);
        x.thing(0);
        x.see(2, 0, Check.at(12, 12), 3);
        return x;
    }

    private static void theWatchesAreAsTold() {
        check.due("sights", watch().count(1), 20);
        check.due("jumps", Shown.jumps(watch()).equals(List.of(0, 1, 1, 1, 1, 0)), true);
        check.due("sights, not full", lessThanFull().count(1), 3);
        check.due("jumps, not full", Shown.jumps(lessThanFull()).equals(List.of(0, 0, 0, -1, -1, -1)), true);
    }

    private static void dueUnchanged(String call, Calls.Maker maker, Asked asked, int due) {
        dueUnchangedButJumps(call, maker, asked, due, 0, 0);
    }

    private static void dueUnchangedButJumps(String call, Calls.Maker maker, Asked asked, int due, int thing, int jumps) {
        for (int i = 0; i < PARTS.size(); i++) {
            OverLine touched = maker.make();
            check.due(call, asked.ask(touched), due);
            boolean same = PARTS.get(i).of(touched).equals(PARTS.get(i).of(maker.make()));
            check.due(call + " leaves part " + i + " as it was", same, true);
        }
        OverLine touched = maker.make();
        asked.ask(touched);
        List<Integer> told = Shown.jumps(maker.make());
        told.set(thing, told.get(thing) + jumps);
        check.due(call + " and the jumps", Shown.jumps(touched).equals(told), true);
    }

    private static void wrongNumbers() {
        for (Calls.Call call : Calls.all()) {
            for (int i = 0; i < call.kinds().size(); i++) {
                for (int wrong : call.kinds().get(i).wrongs()) {
                    int[] numbers = call.usual().clone();
                    numbers[i] = wrong;
                    dueUnchanged(call.with(numbers), RefusedTest::watch, x -> call.asking().ask(x, numbers), call.refusal());
                }
            }
        }
    }

    private static void wrongNumbersOnANewObject() {
        for (Calls.Call call : Calls.all()) {
            boolean needsSome = call.kinds().contains(Calls.Kind.THING) || call.kinds().contains(Calls.Kind.GROUND);
            int[] numbers = needsSome ? call.usual() : new int[] {-1};
            dueUnchanged("new: " + call.with(numbers), OverLine::new, x -> call.asking().ask(x, numbers), call.refusal());
        }
    }

    /** "NONE if SPEED can't be, or 6 came." */
    private static void thingWhenSixCame() {
        for (int speed = 0; speed <= 7; speed++) {
            int each = speed;
            dueUnchanged("seventh thing(" + speed + ")", RefusedTest::watch, x -> x.thing(each), -1);
        }
    }

    private static void thingOfAWrongSpeed() {
        for (int wrong : Calls.Kind.SPEED.wrongs()) {
            dueUnchanged("thing(" + wrong + ")", RefusedTest::lessThanFull, x -> x.thing(wrong), -1);
        }
    }

    /** "NONE if .. the THING has 12": a sight that would fit, one that wouldn't, and one that is wrong, too. */
    private static void sightWhenThingHas12() {
        dueUnchanged("thirteenth, tells nothing new", RefusedTest::watch, x -> x.see(0, 40, Check.at(30, 30), 63), -1);
        dueUnchanged("thirteenth, would tell more", RefusedTest::watch, x -> x.see(0, 3, Check.at(20, 30), 1), -1);
        dueUnchanged("thirteenth, too far", RefusedTest::watch, x -> x.see(0, 3, 4095, 0), -1);
        dueUnchanged("thirteenth, wrong radius", RefusedTest::watch, x -> x.see(0, 3, Check.at(20, 30), 64), -1);
    }

    /** "a SIGHT by which there would be none is a JUMP: it is left out." */
    private static void jump() {
        dueUnchangedButJumps("jump", RefusedTest::watch, x -> x.see(1, 41, 63, 0), -1, 1, 1);
        dueUnchangedButJumps("jump at a tick of a sight", RefusedTest::watch, x -> x.see(2, 40, 0, 9), -1, 2, 1);
        dueUnchangedButJumps("jump at tick 0", RefusedTest::watch, x -> x.see(1, 0, 4095, 0), -1, 1, 1);
        dueUnchangedButJumps("jump at tick 79", RefusedTest::lessThanFull, x -> x.see(2, 79, Check.at(16, 12), 0), -1, 2, 1);
        dueUnchangedButJumps("jump between", RefusedTest::lessThanFull, x -> x.see(0, 35, 4095, 20), -1, 0, 1);
        dueUnchangedButJumps("jumps, three", RefusedTest::lessThanFull,
            x -> x.see(0, 35, 4095, 0) + x.see(0, 36, 4095, 0) + x.see(0, 37, 4095, 0), -3, 0, 3);
    }

    /** back: "false if there is none": no sight, none left, no thing. */
    private static void backOfNone() {
        dueUnchanged("back of no sight", RefusedTest::watch, x -> Calls.toInt(x.back(5)), 0);
        dueUnchanged("back of no sight, not full", RefusedTest::lessThanFull, x -> Calls.toInt(x.back(1)), 0);
        dueUnchanged("back of no thing", RefusedTest::lessThanFull, x -> Calls.toInt(x.back(3)), 0);
        dueUnchanged("back of jumps alone", RefusedTest::withJumpsAlone, x -> Calls.toInt(x.back(0)), 0);
    }

    private static OverLine withJumpsAlone() {
        OverLine x = new OverLine();
        x.thing(1);
        x.see(0, 5, 0, 0);
        x.see(0, 6, 4095, 0);
        x.back(0);
        return x;
    }

    /** "NONE if 4 came." */
    private static void groundWhenFourCame() {
        dueUnchanged("fifth ground", RefusedTest::watch, x -> x.ground(), -1);
    }

    /** "or the second one's x or y is less." */
    private static void drawWithASecondCornerThatIsLess() {
        int[][] corners = {
            {Check.at(20, 20), Check.at(19, 30)}, {Check.at(20, 20), Check.at(30, 19)}, {Check.at(20, 20), Check.at(19, 19)},
            {Check.at(0, 63), Check.at(1, 0)}, {Check.at(1, 0), Check.at(0, 63)}, {4095, 0}, {Check.at(0, 1), 0}, {64, 0}};
        for (int[] c : corners) {
            for (boolean in : new boolean[] {true, false}) {
                dueUnchanged("draw(1, " + c[0] + ", " + c[1] + ", " + in + ")", RefusedTest::watch, x -> x.draw(1, c[0], c[1], in), -1);
            }
        }
    }

    private static void stretchWithAAboveB() {
        for (int a : new int[] {1, 40, 79}) {
            dueUnchanged("entered from " + a, RefusedTest::watch, x -> x.entered(1, 1, a, a - 1), -1);
            dueUnchanged("least stay from " + a, RefusedTest::watch, x -> x.stay(1, 1, a, a - 1, 0), -1);
            dueUnchanged("most stay from " + a, RefusedTest::watch, x -> x.stay(1, 1, a, a - 1, 1), -1);
        }
    }

    private static void enteredByNotEachMotion() {
        dueUnchanged("never in by some motion", RefusedTest::watch, x -> x.entered(5, 0, 0, 79), -1);
    }

    private static void lookFromATickThatIsntOut() {
        dueUnchanged("look from maybe", RefusedTest::watch, x -> x.look(5, 0, 0, 0), -1);
    }

    private static void apartOfOne() {
        dueUnchanged("both are one", RefusedTest::watch, x -> x.apart(3, 3, 40, 0), -1);
    }

    /** What only asks changes nothing, either, though entered and stay work in rows of the object. */
    private static void questions() {
        for (Calls.Call call : Calls.all()) {
            if (List.of("thing", "see", "back", "draw in", "draw out").contains(call.name())) {
                continue;
            }
            int[] numbers = call.usual();
            int answer = call.asking().ask(watch(), numbers);
            dueUnchanged(call.with(numbers), RefusedTest::watch, x -> call.asking().ask(x, numbers), answer);
        }
        int least = watch().stay(0, 1, 0, 79, 0);
        int most = watch().stay(0, 1, 0, 79, 1);
        int entered = watch().entered(1, 0, 0, 79);
        dueUnchanged("least stay behind others", RefusedTest::watch, x -> askAround(x).stay(0, 1, 0, 79, 0), least);
        dueUnchanged("most stay behind others", RefusedTest::watch, x -> askAround(x).stay(0, 1, 0, 79, 1), most);
        dueUnchanged("entered behind others", RefusedTest::watch, x -> askAround(x).entered(1, 0, 0, 79), entered);
    }

    private static OverLine askAround(OverLine x) {
        for (int what = 0; what < 2; what++) {
            x.stay(1, 0, 5, 70, what);
            x.entered(1, 1, 30, 50);
            x.stay(0, 2, 0, 79, 1 - what);
            x.entered(2, 0, 0, 79);
        }
        return x;
    }
}
