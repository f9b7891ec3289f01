/** Promises 3 to 6: see, back, jumps, where. */
public final class SightsTest {
    private static final Check check = new Check();

    public static void main(String[] args) {
        wrongSights();
        radiusIsCutByTheField();
        edgesOfTime();
        justReachableAndJustNot();
        jumpByTwoSightsAroundIt();
        jumpsAreLeftOutForGood();
        twoSightsAtOneTick();
        atMostTwelve();
        fullThingCountsNoJump();
        backTakesTheLastThatCame();
        whereIsByAllSights();
        wrongWhere();
        check.end();
    }

    private static OverLine one(int speed) {
        OverLine x = new OverLine();
        x.thing(speed);
        return x;
    }

    private static void wrongSights() {
        OverLine x = one(0);
        int[][] wrong = {
            {-1, 0, 0, 0}, {1, 0, 0, 0}, {6, 0, 0, 0}, {Integer.MAX_VALUE, 0, 0, 0}, {Integer.MIN_VALUE, 0, 0, 0},
            {0, -1, 0, 0}, {0, 80, 0, 0}, {0, Integer.MAX_VALUE, 0, 0}, {0, Integer.MIN_VALUE, 0, 0},
            {0, 0, -1, 0}, {0, 0, 4096, 0}, {0, 0, Integer.MAX_VALUE, 0}, {0, 0, Integer.MIN_VALUE, 0},
            {0, 0, 0, -1}, {0, 0, 0, 64}, {0, 0, 0, Integer.MAX_VALUE}, {0, 0, 0, Integer.MIN_VALUE}};
        for (int[] w : wrong) {
            check.due("see(" + w[0] + ", " + w[1] + ", " + w[2] + ", " + w[3] + ")", x.see(w[0], w[1], w[2], w[3]), -1);
        }
        check.due("wrong sights are no jumps", x.jumps(0), 0);
        check.due("wrong sights are not kept", x.count(1), 0);
        check.due("wrong sights change nothing", x.where(0, 0, 4), 4096);
        check.due("back of nothing", x.back(0), false);
    }

    private static void radiusIsCutByTheField() {
        OverLine x = one(0);
        check.due("see corner", x.see(0, 5, Check.at(63, 1), 3), 1);
        check.due("least x", x.where(0, 5, 0), 60);
        check.due("greatest x", x.where(0, 5, 1), 63);
        check.due("least y", x.where(0, 5, 2), 0);
        check.due("greatest y", x.where(0, 5, 3), 4);
        check.due("places", x.where(0, 5, 4), 20);
        OverLine y = one(0);
        check.due("see all", y.see(0, 5, 4095, 63), 1);
        check.due("all places", y.where(0, 5, 4), 4096);
        OverLine z = one(0);
        z.see(0, 5, 4095, 62);
        check.due("all but an edge", z.where(0, 5, 4), 63 * 63);
    }

    private static void edgesOfTime() {
        OverLine x = one(1);
        check.due("see at 0", x.see(0, 0, Check.at(10, 10), 0), 1);
        check.due("see at 79", x.see(0, 79, Check.at(12, 10), 0), 2);
        check.due("at 79", x.where(0, 79, 4), 1);
        check.due("at 0", x.where(0, 0, 4), 1);
        check.due("at 78", x.where(0, 78, 0), 11);
        check.due("at 1", x.where(0, 1, 1), 11);
    }

    private static void justReachableAndJustNot() {
        for (int speed = 0; speed <= 7; speed++) {
            OverLine x = one(speed);
            x.see(0, 20, Check.at(0, 5), 1);
            int far = 6 + 4 * speed + 2;
            check.due("just too far, speed " + speed, x.see(0, 24, Check.at(0, far + 1), 2), -1);
            check.due("a jump", x.jumps(0), 1);
            check.due("just in reach, speed " + speed, x.see(0, 24, Check.at(0, far), 2), 2);
            check.due("no jump", x.jumps(0), 1);
            check.due("only there", x.where(0, 24, 2), far - 2);
            check.due("only there, too", x.where(0, 24, 3), far - 2);
            check.due("only from there", x.where(0, 20, 2), 6);
        }
    }

    private static void jumpByTwoSightsAroundIt() {
        OverLine x = one(1);
        x.see(0, 10, Check.at(10, 10), 0);
        x.see(0, 20, Check.at(20, 10), 0);
        check.due("in reach of each alone, not of both", x.see(0, 15, Check.at(14, 10), 0), -1);
        check.due("y alone is enough to be one", x.see(0, 15, Check.at(15, 16), 0), -1);
        check.due("jumps", x.jumps(0), 2);
        check.due("on the only way", x.see(0, 15, Check.at(15, 11), 0), 3);
    }

    private static void jumpsAreLeftOutForGood() {
        OverLine x = one(0);
        x.thing(0);
        x.see(0, 3, 100, 0);
        check.due("jump", x.see(0, 4, 200, 0), -1);
        check.due("jump at the same tick", x.see(0, 3, 101, 0), -1);
        check.due("jumps", x.jumps(0), 2);
        check.due("jumps of another", x.jumps(1), 0);
        check.due("place as before", x.where(0, 4, 4), 1);
        check.due("back", x.back(0), true);
        check.due("nothing left", x.where(0, 4, 4), 4096);
        check.due("jumps stay told", x.jumps(0), 2);
        check.due("back again", x.back(0), false);
        for (int wrong : new int[] {-1, 2, 6, Integer.MIN_VALUE, Integer.MAX_VALUE}) {
            check.due("jumps(" + wrong + ")", x.jumps(wrong), -1);
            check.due("back(" + wrong + ")", x.back(wrong), false);
        }
    }

    private static void twoSightsAtOneTick() {
        OverLine x = one(3);
        x.see(0, 30, Check.at(20, 20), 5);
        check.due("second of a tick", x.see(0, 30, Check.at(28, 14), 4), 2);
        check.due("x of both", x.where(0, 30, 0), 24);
        check.due("x of both", x.where(0, 30, 1), 25);
        check.due("y of both", x.where(0, 30, 2), 15);
        check.due("y of both", x.where(0, 30, 3), 18);
        check.due("places of both", x.where(0, 30, 4), 8);
        check.due("third that fits not", x.see(0, 30, Check.at(23, 15), 0), -1);
    }

    private static void atMostTwelve() {
        OverLine x = one(2);
        x.thing(2);
        for (int i = 1; i <= 12; i++) {
            check.due("sight " + i, x.see(0, 79 - i, Check.at(30, 30), 63), i);
        }
        check.due("thirteenth", x.see(0, 0, Check.at(30, 30), 0), -1);
        check.due("it changed nothing", x.where(0, 0, 4), 4096);
        check.due("another has its own", x.see(1, 0, Check.at(30, 30), 0), 1);
        check.due("all", x.count(1), 13);
        check.due("back", x.back(0), true);
        check.due("room again", x.see(0, 0, Check.at(30, 30), 0), 12);
        check.due("it holds", x.where(0, 0, 4), 1);
        for (int i = 0; i < 12; i++) {
            check.due("back " + i, x.back(0), true);
        }
        check.due("back of none", x.back(0), false);
        check.due("the other keeps its own", x.count(1), 1);
    }

    private static void fullThingCountsNoJump() {
        OverLine x = one(0);
        for (int i = 0; i < 12; i++) {
            x.see(0, 0, 0, 0);
        }
        check.due("full, and too far", x.see(0, 0, 4095, 0), -1);
        check.due("refused, so no jump", x.jumps(0), 0);
        x.back(0);
        check.due("not full, and too far", x.see(0, 0, 4095, 0), -1);
        check.due("a jump", x.jumps(0), 1);
    }

    private static void backTakesTheLastThatCame() {
        OverLine x = one(1);
        x.see(0, 50, Check.at(40, 40), 4);
        x.see(0, 10, Check.at(30, 30), 2);
        check.due("both", x.where(0, 10, 4), 25);
        check.due("back", x.back(0), true);
        check.due("the later tick is kept", x.where(0, 50, 4), 81);
        check.due("the earlier tick is free", x.where(0, 10, 0), 0);
        check.due("sight after back", x.see(0, 10, Check.at(31, 31), 0), 2);
        check.due("the new one holds", x.where(0, 10, 2), 31);
    }

    private static void whereIsByAllSights() {
        OverLine x = one(2);
        x.see(0, 20, Check.at(10, 50), 1);
        x.see(0, 30, Check.at(26, 50), 1);
        check.due("between, least x", x.where(0, 25, 0), 15);
        check.due("between, greatest x", x.where(0, 25, 1), 21);
        check.due("between, least y", x.where(0, 25, 2), 39);
        check.due("between, greatest y", x.where(0, 25, 3), 61);
        check.due("between, places", x.where(0, 25, 4), 7 * 23);
        check.due("at a sight the other counts", x.where(0, 20, 0), 9);
        check.due("before", x.where(0, 15, 0), 0);
        check.due("before", x.where(0, 15, 1), 21);
        check.due("behind, cut by the field", x.where(0, 40, 3), 63);
        check.due("no sight at all", one(0).where(0, 79, 4), 4096);
    }

    private static void wrongWhere() {
        OverLine x = one(2);
        for (int wrong : new int[] {-1, 5, Integer.MIN_VALUE, Integer.MAX_VALUE}) {
            check.due("what " + wrong, x.where(0, 0, wrong), -1);
        }
        for (int wrong : new int[] {-1, 80, Integer.MIN_VALUE, Integer.MAX_VALUE}) {
            check.due("tick " + wrong, x.where(0, wrong, 1), -1);
        }
        for (int wrong : new int[] {-1, 1, Integer.MIN_VALUE, Integer.MAX_VALUE}) {
            check.due("thing " + wrong, x.where(wrong, 0, 1), -1);
        }
    }
}
