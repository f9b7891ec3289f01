/** Promises 11 and 12: entered, stay. */
public final class StretchesTest {
    private static final Check check = new Check();

    public static void main(String[] args) {
        wallThatCanBeLeaptAndNot();
        gateInAWall();
        surelyInAtNoSingleTick();
        laterSightsCount();
        sightsBeforeTheStretchCount();
        oneTick();
        wholeField();
        emptyGround();
        standingStill();
        waysThatCostTurns();
        edgesOfTheField();
        manyNumbersAtOnce();
        narrowWayThatIsTakenEarly();
        wrongStretches();
        check.end();
    }

    private static OverLine one(int speed) {
        OverLine x = new OverLine();
        x.thing(speed);
        x.ground();
        return x;
    }

    private static void dueStay(String call, OverLine x, int a, int b, int least, int most) {
        check.due(call + ", least", x.stay(0, 0, a, b, 0), least);
        check.due(call + ", most", x.stay(0, 0, a, b, 1), most);
    }

    private static void wallThatCanBeLeaptAndNot() {
        for (int speed = 1; speed <= 7; speed++) {
            OverLine x = one(speed);
            x.see(0, 0, Check.at(0, 30), 0);
            x.see(0, 70, Check.at(63, 30), 0);
            if (speed > 1) {
                x.draw(0, Check.at(20, 0), Check.at(20 + speed - 2, 63), true);
                check.due("thin wall, speed " + speed, x.entered(0, 0, 0, 79), -1);
                check.due("thin wall, least", x.stay(0, 0, 0, 79, 0), 0);
            }
            x.draw(0, Check.at(20, 0), Check.at(20 + speed - 1, 63), true);
            int last = 70 - (63 - (20 + speed - 1) + speed - 1) / speed;
            check.due("thick wall, speed " + speed, x.entered(0, 0, 0, 79), last);
            check.due("thick wall, least", x.stay(0, 0, 0, 79, 0), 1);
            check.due("thick wall, too short a stretch", x.entered(0, 0, 0, last - 1), -1);
        }
    }

    private static void gateInAWall() {
        OverLine x = one(1);
        x.draw(0, Check.at(30, 0), Check.at(30, 63), true);
        x.see(0, 0, Check.at(0, 10), 0);
        x.see(0, 79, Check.at(63, 10), 0);
        check.due("wall", x.stay(0, 0, 0, 79, 0), 1);
        x.draw(0, Check.at(30, 40), Check.at(30, 40), false);
        check.due("gate in reach", x.entered(0, 0, 0, 79), -1);
        x.draw(0, 0, 4095, false);
        x.draw(0, Check.at(30, 0), Check.at(30, 63), true);
        x.draw(0, Check.at(30, 63), Check.at(30, 63), false);
        check.due("gate out of reach", x.stay(0, 0, 0, 79, 0), 1);
    }

    private static void surelyInAtNoSingleTick() {
        OverLine x = one(3);
        x.see(0, 0, Check.at(10, 10), 0);
        x.see(0, 5, Check.at(20, 10), 0);
        x.draw(0, Check.at(14, 0), Check.at(16, 63), true);
        for (int tick = 0; tick <= 5; tick++) {
            check.due("state at " + tick, x.state(0, 0, tick) == 2, false);
        }
        check.due("yet it was in by then", x.entered(0, 0, 0, 5), 3);
        dueStay("yet it was in", x, 0, 5, 1, 2);
    }

    private static void laterSightsCount() {
        OverLine x = one(1);
        x.see(0, 10, Check.at(10, 10), 0);
        x.draw(0, Check.at(12, 0), Check.at(12, 63), true);
        check.due("free", x.entered(0, 0, 10, 12), -1);
        dueStay("free", x, 10, 12, 0, 1);
        x.see(0, 16, Check.at(16, 10), 0);
        check.due("by a sight behind b", x.entered(0, 0, 10, 12), 12);
        dueStay("by a sight behind b", x, 10, 12, 1, 1);
        check.due("not before", x.entered(0, 0, 10, 11), -1);
    }

    private static void sightsBeforeTheStretchCount() {
        OverLine x = one(1);
        x.see(0, 10, Check.at(10, 10), 0);
        x.draw(0, Check.at(5, 5), Check.at(15, 15), true);
        check.due("in from the first tick on", x.entered(0, 0, 13, 20), 13);
        dueStay("surely three, then maybe", x, 13, 20, 3, 8);
        dueStay("to the last tick", x, 13, 79, 3, 67);
        dueStay("before the sight", x, 0, 7, 3, 8);
    }

    private static void oneTick() {
        OverLine x = one(2);
        x.draw(0, Check.at(10, 10), Check.at(14, 14), true);
        x.see(0, 20, Check.at(12, 12), 0);
        check.due("in", x.entered(0, 0, 21, 21), 21);
        dueStay("in", x, 21, 21, 1, 1);
        check.due("maybe", x.entered(0, 0, 22, 22), -1);
        dueStay("maybe", x, 22, 22, 0, 1);
        x.draw(0, 0, 4095, false);
        dueStay("out", x, 20, 20, 0, 0);
        check.due("out", x.entered(0, 0, 20, 20), -1);
    }

    private static void wholeField() {
        for (int speed = 0; speed <= 7; speed++) {
            OverLine x = one(speed);
            x.draw(0, 0, 4095, true);
            check.due("at once", x.entered(0, 0, 0, 79), 0);
            check.due("at the last tick", x.entered(0, 0, 79, 79), 79);
            dueStay("always", x, 0, 79, 80, 80);
            dueStay("always, short", x, 78, 79, 2, 2);
        }
    }

    private static void emptyGround() {
        for (int speed = 0; speed <= 7; speed++) {
            OverLine x = one(speed);
            check.due("never", x.entered(0, 0, 0, 79), -1);
            dueStay("never", x, 0, 79, 0, 0);
        }
    }

    private static void standingStill() {
        OverLine x = one(0);
        x.draw(0, Check.at(10, 10), Check.at(14, 14), true);
        x.see(0, 50, Check.at(12, 12), 3);
        check.due("in or out, but always the same", x.entered(0, 0, 0, 79), -1);
        dueStay("in or out", x, 0, 79, 0, 80);
        x.see(0, 3, Check.at(13, 13), 1);
        check.due("in", x.entered(0, 0, 7, 79), 7);
        dueStay("in", x, 7, 79, 73, 73);
    }

    private static void waysThatCostTurns() {
        OverLine x = one(1);
        x.see(0, 10, Check.at(10, 10), 0);
        x.see(0, 30, Check.at(10, 10), 0);
        x.draw(0, Check.at(10, 10), Check.at(10, 10), true);
        dueStay("out and back", x, 10, 30, 2, 21);
        x.draw(0, Check.at(13, 0), Check.at(13, 63), true);
        dueStay("two grounds, near", x, 10, 30, 2, 21);
        x.draw(0, Check.at(10, 10), Check.at(10, 10), false);
        dueStay("there and back", x, 10, 30, 0, 15);
        x.draw(0, 0, 4095, false);
        x.draw(0, Check.at(0, 0), Check.at(63, 12), true);
        dueStay("long way out", x, 10, 30, 6, 21);
    }

    /** Outside the ground are a corner and one place more: from one to the other is a step, or isn't. */
    private static void edgesOfTheField() {
        for (int speed = 1; speed <= 7; speed++) {
            for (int corner = 0; corner < 4; corner++) {
                int cx = corner % 2 * 63;
                int cy = corner / 2 * 63;
                for (int d = 1; d <= speed + 1; d++) {
                    dueStep(speed, cx, cy, Math.abs(cx - d), cy, d <= speed);
                    dueStep(speed, cx, cy, cx, Math.abs(cy - d), d <= speed);
                    dueStep(speed, cx, cy, Math.abs(cx - d), Math.abs(cy - 1), d <= speed);
                }
            }
        }
    }

    private static void dueStep(int speed, int cx, int cy, int px, int py, boolean free) {
        OverLine x = one(speed);
        x.draw(0, 0, 4095, true);
        x.draw(0, Check.at(cx, cy), Check.at(cx, cy), false);
        x.draw(0, Check.at(px, py), Check.at(px, py), false);
        x.see(0, 5, Check.at(cx, cy), 1);
        x.see(0, 6, Check.at(px, py), 0);
        boolean near = Math.abs(cx - px) <= 1 && Math.abs(cy - py) <= 1;
        String call = "speed " + speed + ", " + cx + " " + cy + " to " + px + " " + py;
        check.due(call + ", entered", x.entered(0, 0, 5, 6), free ? -1 : 5);
        dueStay(call, x, 5, 6, free ? 0 : 1, near && !free ? 2 : 1);
    }

    /** A belt that is slow to cross, with a long way around: each place has another number of ticks. */
    private static void manyNumbersAtOnce() {
        OverLine x = one(1);
        x.draw(0, 0, Check.at(31, 63), true);
        x.see(0, 0, Check.at(0, 30), 0);
        dueStay("half a field to cross", x, 0, 79, 32, 80);
        for (int b = 0; b < 80; b++) {
            check.due("least to " + b, x.stay(0, 0, 0, b, 0), Math.min(b + 1, 32));
        }
        x.see(0, 79, Check.at(20, 30), 0);
        dueStay("there and back again", x, 0, 79, 44, 80);
        x.draw(0, Check.at(10, 0), Check.at(12, 63), false);
        dueStay("with a lane to wait in", x, 0, 79, 18, 77);
        x.draw(0, Check.at(15, 50), Check.at(17, 63), false);
        dueStay("with a second one out of the way", x, 0, 79, 18, 77);
    }

    /** Who waits outside is ahead for long, and pays more in the end. */
    private static void narrowWayThatIsTakenEarly() {
        OverLine x = one(1);
        x.draw(0, Check.at(20, 0), Check.at(29, 30), true);
        x.draw(0, Check.at(20, 31), Check.at(22, 63), true);
        x.see(0, 0, Check.at(10, 0), 0);
        x.see(0, 79, Check.at(40, 0), 0);
        check.due("around", x.stay(0, 0, 0, 79, 0), 3);
        check.due("around, entered", x.entered(0, 0, 0, 79), 59);
        check.due("free for long", x.stay(0, 0, 0, 58, 0), 0);
        x.see(0, 31, Check.at(10, 0), 30);
        check.due("still early enough", x.stay(0, 0, 0, 79, 0), 3);
        x.see(0, 45, Check.at(9, 0), 10);
        check.due("too late to go around", x.stay(0, 0, 0, 79, 0), 10);
    }

    private static void wrongStretches() {
        OverLine x = one(1);
        x.draw(0, 0, 4095, true);
        for (int wrong : new int[] {-1, 1, 6, Integer.MIN_VALUE, Integer.MAX_VALUE}) {
            check.due("entered thing " + wrong, x.entered(wrong, 0, 0, 79), -1);
            check.due("entered ground " + wrong, x.entered(0, wrong, 0, 79), -1);
            check.due("stay thing " + wrong, x.stay(wrong, 0, 0, 79, 0), -1);
            check.due("stay ground " + wrong, x.stay(0, wrong, 0, 79, 1), -1);
        }
        for (int wrong : new int[] {-1, 80, Integer.MIN_VALUE, Integer.MAX_VALUE}) {
            check.due("entered a " + wrong, x.entered(0, 0, wrong, 79), -1);
            check.due("entered b " + wrong, x.entered(0, 0, 0, wrong), -1);
            check.due("stay a " + wrong, x.stay(0, 0, wrong, 79, 0), -1);
            check.due("stay b " + wrong, x.stay(0, 0, 0, wrong, 1), -1);
        }
        for (int wrong : new int[] {-1, 2, Integer.MIN_VALUE, Integer.MAX_VALUE}) {
            check.due("stay what " + wrong, x.stay(0, 0, 0, 79, wrong), -1);
        }
        check.due("a above b", x.entered(0, 0, 5, 4), -1);
        check.due("a above b, least", x.stay(0, 0, 5, 4, 0), -1);
        check.due("a above b, most", x.stay(0, 0, 79, 0, 1), -1);
    }
}
