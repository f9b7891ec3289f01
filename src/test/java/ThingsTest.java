/** Promises 1, 2 and 15: a new object, thing, count. */
public final class ThingsTest {
    private static final Check check = new Check();

    public static void main(String[] args) {
        newObjectIsEmpty();
        objectsAreApart();
        speeds();
        atMostSixThings();
        counts();
        check.end();
    }

    private static void newObjectIsEmpty() {
        OverLine x = new OverLine();
        check.due("new: things", x.count(0), 0);
        check.due("new: sights", x.count(1), 0);
        check.due("new: grounds", x.count(2), 0);
        check.due("new: jumps(0)", x.jumps(0), -1);
        check.due("new: has(0, 0)", x.has(0, 0), false);
        check.due("new: where(0, 0, 0)", x.where(0, 0, 0), -1);
        check.due("NONE", OverLine.NONE, -1);
    }

    private static void objectsAreApart() {
        OverLine x = new OverLine();
        OverLine y = new OverLine();
        x.thing(1);
        x.ground();
        x.see(0, 0, 0, 0);
        x.draw(0, 0, 0, true);
        check.due("other object: things", y.count(0), 0);
        y.thing(1);
        y.ground();
        check.due("other object: sights", y.count(1), 0);
        check.due("other object: has", y.has(0, 0), false);
        check.due("other object: where", y.where(0, 0, 4), 4096);
    }

    private static void speeds() {
        for (int wrong : new int[] {-1, 8, Integer.MIN_VALUE, Integer.MAX_VALUE}) {
            OverLine x = new OverLine();
            check.due("thing(" + wrong + ")", x.thing(wrong), -1);
            check.due("things after it", x.count(0), 0);
        }
        for (int speed = 0; speed <= 7; speed++) {
            OverLine x = new OverLine();
            check.due("thing(" + speed + ")", x.thing(speed), 0);
            x.see(0, 40, Check.at(30, 30), 0);
            check.due("speed " + speed + " forth", x.where(0, 41, 1), 30 + speed);
            check.due("speed " + speed + " back", x.where(0, 39, 2), 30 - speed);
        }
    }

    private static void atMostSixThings() {
        OverLine x = new OverLine();
        for (int i = 0; i < 6; i++) {
            check.due("thing " + i, x.thing(i), i);
            check.due("wrong speed between", x.thing(8), -1);
        }
        check.due("seventh thing", x.thing(0), -1);
        check.due("things", x.count(0), 6);
        check.due("jumps(6)", x.jumps(6), -1);
        for (int i = 0; i < 6; i++) {
            x.see(i, 10, Check.at(20, 20), 0);
            check.due("own speed of " + i, x.where(i, 11, 0), 20 - i);
        }
    }

    private static void counts() {
        OverLine x = new OverLine();
        x.thing(0);
        x.thing(7);
        x.ground();
        x.see(0, 0, 0, 0);
        x.see(1, 0, 0, 0);
        x.see(1, 1, 0, 0);
        check.due("count(0)", x.count(0), 2);
        check.due("count(1)", x.count(1), 3);
        check.due("count(2)", x.count(2), 1);
        x.see(0, 1, 1, 0);
        check.due("count(1) after a jump", x.count(1), 3);
        x.back(1);
        check.due("count(1) after back", x.count(1), 2);
        for (int wrong : new int[] {-1, 3, Integer.MIN_VALUE, Integer.MAX_VALUE}) {
            check.due("count(" + wrong + ")", x.count(wrong), -1);
        }
    }
}
