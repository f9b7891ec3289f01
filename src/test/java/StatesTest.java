/** Promises 10, 13 and 14: state, look, apart. */
public final class StatesTest {
    private static final Check check = new Check();

    public static void main(String[] args) {
        states();
        laterSightsCountForState();
        wrongStates();
        looks();
        lookWithDelay();
        lookWithNothingToCome();
        wrongLooks();
        apartOfPlaces();
        apartOfBoxes();
        wrongApart();
        check.end();
    }

    private static OverLine one(int speed) {
        OverLine x = new OverLine();
        x.thing(speed);
        x.ground();
        return x;
    }

    private static void states() {
        OverLine x = one(0);
        check.due("empty ground", x.state(0, 0, 0), 0);
        x.draw(0, Check.at(10, 10), Check.at(20, 20), true);
        check.due("anywhere", x.state(0, 0, 0), 1);
        x.see(0, 4, Check.at(15, 15), 6);
        check.due("over the edge", x.state(0, 0, 0), 1);
        x.see(0, 4, Check.at(15, 15), 5);
        check.due("just in", x.state(0, 0, 79), 2);
        x.draw(0, Check.at(20, 20), Check.at(20, 20), false);
        check.due("a place short", x.state(0, 0, 79), 1);
        x.draw(0, Check.at(10, 10), Check.at(20, 19), false);
        x.draw(0, Check.at(10, 10), Check.at(19, 20), false);
        check.due("just out", x.state(0, 0, 79), 0);
        x.draw(0, Check.at(9, 9), Check.at(21, 21), true);
        x.draw(0, Check.at(10, 10), Check.at(20, 20), false);
        check.due("a ring around it", x.state(0, 0, 40), 0);
        x.draw(0, 0, 4095, true);
        check.due("all", x.state(0, 0, 40), 2);
    }

    private static void laterSightsCountForState() {
        OverLine x = one(1);
        x.draw(0, Check.at(10, 10), Check.at(12, 12), true);
        x.see(0, 5, Check.at(11, 11), 0);
        check.due("two behind", x.state(0, 0, 7), 1);
        x.see(0, 9, Check.at(15, 11), 0);
        check.due("on the only way", x.state(0, 0, 6), 2);
        check.due("surely out by a later sight", x.state(0, 0, 7), 0);
        x.back(0);
        check.due("maybe again", x.state(0, 0, 7), 1);
    }

    private static void wrongStates() {
        OverLine x = one(1);
        for (int wrong : new int[] {-1, 1, 6, Integer.MIN_VALUE, Integer.MAX_VALUE}) {
            check.due("state of thing " + wrong, x.state(wrong, 0, 0), -1);
            check.due("state of ground " + wrong, x.state(0, wrong, 0), -1);
        }
        for (int wrong : new int[] {-1, 80, Integer.MIN_VALUE, Integer.MAX_VALUE}) {
            check.due("state at tick " + wrong, x.state(0, 0, wrong), -1);
        }
    }

    private static void looks() {
        OverLine x = one(2);
        x.see(0, 10, Check.at(0, 0), 0);
        x.draw(0, Check.at(9, 0), Check.at(9, 0), true);
        check.due("first tick in reach", x.look(0, 0, 10, 0), 15);
        check.due("from the last tick out", x.look(0, 0, 14, 0), 15);
        check.due("not out", x.look(0, 0, 15, 0), -1);
        check.due("not out before, either", x.look(0, 0, 0, 0), -1);
        check.due("out, then in reach of the sight", x.look(0, 0, 6, 0), 15);
        x.see(0, 20, Check.at(0, 0), 0);
        check.due("a later sight counts", x.look(0, 0, 14, 0), 15);
        x.see(0, 19, Check.at(0, 0), 0);
        check.due("another that shuts it out", x.look(0, 0, 11, 0), 25);
        x.see(0, 79, Check.at(0, 0), 0);
        check.due("out at the end", x.look(0, 0, 79, 0), 79);
        check.due("the last maybe", x.look(0, 0, 75, 0), 79);
    }

    private static void lookWithDelay() {
        OverLine x = one(1);
        x.see(0, 0, 0, 0);
        x.draw(0, Check.at(40, 0), Check.at(40, 0), true);
        check.due("delay 0", x.look(0, 0, 0, 0), 40);
        check.due("delay 38", x.look(0, 0, 3, 38), 78);
        check.due("delay 39", x.look(0, 0, 3, 39), 79);
        check.due("delay 40", x.look(0, 0, 3, 40), 79);
        check.due("delay 79", x.look(0, 0, 3, 79), 79);
    }

    private static void lookWithNothingToCome() {
        OverLine x = one(7);
        check.due("empty ground", x.look(0, 0, 0, 0), 79);
        check.due("empty ground, last tick", x.look(0, 0, 79, 0), 79);
        x.draw(0, Check.at(63, 63), Check.at(63, 63), true);
        x.see(0, 79, 0, 0);
        check.due("last tick, out", x.look(0, 0, 79, 5), 79);
    }

    private static void wrongLooks() {
        OverLine x = one(1);
        for (int wrong : new int[] {-1, 1, Integer.MIN_VALUE, Integer.MAX_VALUE}) {
            check.due("look thing " + wrong, x.look(wrong, 0, 0, 0), -1);
            check.due("look ground " + wrong, x.look(0, wrong, 0, 0), -1);
        }
        for (int wrong : new int[] {-1, 80, Integer.MIN_VALUE, Integer.MAX_VALUE}) {
            check.due("look tick " + wrong, x.look(0, 0, wrong, 0), -1);
            check.due("look delay " + wrong, x.look(0, 0, 0, wrong), -1);
        }
        x.draw(0, 0, 0, true);
        check.due("maybe", x.look(0, 0, 0, 0), -1);
        x.draw(0, 0, 4095, true);
        check.due("in", x.look(0, 0, 0, 0), -1);
    }

    private static OverLine two(int speedA, int placeA, int speedB, int placeB) {
        OverLine x = new OverLine();
        x.thing(speedA);
        x.thing(speedB);
        x.see(0, 10, placeA, 0);
        x.see(1, 10, placeB, 0);
        return x;
    }

    private static void dueApart(String call, OverLine x, int tick, int least, int most) {
        check.due(call + ", least", x.apart(0, 1, tick, 0), least);
        check.due(call + ", most", x.apart(0, 1, tick, 1), most);
        check.due(call + ", turned, least", x.apart(1, 0, tick, 0), least);
        check.due(call + ", turned, most", x.apart(1, 0, tick, 1), most);
    }

    private static void apartOfPlaces() {
        dueApart("x is more", two(1, Check.at(10, 10), 1, Check.at(30, 15)), 10, 20, 20);
        dueApart("y is more", two(1, Check.at(10, 40), 1, Check.at(12, 15)), 10, 25, 25);
        dueApart("one place", two(1, 77, 1, 77), 10, 0, 0);
        dueApart("corners", two(0, Check.at(0, 63), 0, Check.at(63, 0)), 79, 63, 63);
    }

    private static void apartOfBoxes() {
        OverLine x = two(1, Check.at(10, 10), 3, Check.at(30, 18));
        dueApart("one tick on", x, 11, 16, 24);
        dueApart("two ticks before", x, 8, 12, 28);
        dueApart("boxes meet", x, 15, 0, 40);
        dueApart("one in the other", x, 30, 0, 63);
        OverLine near = two(1, Check.at(30, 30), 2, Check.at(31, 30));
        dueApart("boxes overlap", near, 13, 0, 10);
        OverLine y = two(2, Check.at(20, 20), 1, Check.at(20, 40));
        dueApart("one in front of the other", y, 12, 14, 26);
        dueApart("nowhere seen", two(0, 0, 7, 0), 79, 0, 63);
    }

    private static void wrongApart() {
        OverLine x = two(1, 0, 1, 0);
        check.due("both are one", x.apart(0, 0, 10, 0), -1);
        check.due("both are one", x.apart(1, 1, 10, 1), -1);
        for (int wrong : new int[] {-1, 2, Integer.MIN_VALUE, Integer.MAX_VALUE}) {
            check.due("apart a " + wrong, x.apart(wrong, 0, 10, 0), -1);
            check.due("apart b " + wrong, x.apart(0, wrong, 10, 0), -1);
            check.due("apart both " + wrong, x.apart(wrong, wrong, 10, 0), -1);
            check.due("apart what " + wrong, x.apart(0, 1, 10, wrong), -1);
        }
        for (int wrong : new int[] {-1, 80, Integer.MIN_VALUE, Integer.MAX_VALUE}) {
            check.due("apart tick " + wrong, x.apart(0, 1, wrong, 0), -1);
        }
    }
}
