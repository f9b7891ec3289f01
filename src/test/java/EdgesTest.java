/**
 * Boundary cases of SPEED, SIGHTS, JUMPS and places (promises 2 to 6): each method is for one sentence
 * of the document, which stands over it.
 */
public final class EdgesTest {
    private static final Check check = new Check();

    public static void main(String[] args) {
        newObject();
        thingsAtMostSix();
        aWrongSpeedTakesNoNumber();
        stepsAreSpeedAtMost();
        speedZeroNeverMoves();
        sightsReachToTheFirstAndLastTick();
        radiusToTheLastPlace();
        radiusBeyondTheField();
        notByWrappingAroundTheField();
        aSightThatJustCanBe();
        aSightBetweenTwo();
        sightsOfOneTick();
        aJumpIsLeftOut();
        aJumpByTheFirstOrLastTick();
        jumpsTakeNoRoom();
        sightsAtMostTwelve();
        backToTheFirst();
        jumpsFromNone();
        whereOfOnePlaceAndOfAll();
        countsFromNoneToAll();
        check.end();
    }

    private static OverLine one(int speed) {
        OverLine x = new OverLine();
        x.thing(speed);
        return x;
    }

    private static OverLine seen(int speed, int tick, int x, int y, int radius) {
        OverLine watch = one(speed);
        check.due("first sight", watch.see(0, tick, Check.at(x, y), radius), 1);
        return watch;
    }

    private static void dueWhere(String call, OverLine x, int tick, int... bounds) {
        for (int what = 0; what < 4; what++) {
            check.due(call + ", where " + what, x.where(0, tick, what), bounds[what]);
        }
        int places = (bounds[1] - bounds[0] + 1) * (bounds[3] - bounds[2] + 1);
        check.due(call + ", places", x.where(0, tick, 4), places);
    }

    /** "No THINGS, no GROUNDS." */
    private static void newObject() {
        OverLine x = new OverLine();
        for (int what = 0; what < 3; what++) {
            check.due("new: count " + what, x.count(what), 0);
        }
        check.due("new: see", x.see(0, 0, 0, 0), -1);
        check.due("new: back", x.back(0), false);
        check.due("new: jumps", x.jumps(0), -1);
        check.due("new: where", x.where(0, 0, 0), -1);
        check.due("new: draw", x.draw(0, 0, 0, true), -1);
        check.due("new: has", x.has(0, 0), false);
        check.due("new: state", x.state(0, 0, 0), -1);
        check.due("new: entered", x.entered(0, 0, 0, 79), -1);
        check.due("new: stay", x.stay(0, 0, 0, 79, 0), -1);
        check.due("new: look", x.look(0, 0, 0, 0), -1);
        check.due("new: apart", x.apart(0, 1, 0, 0), -1);
        check.due("new: the first thing", x.thing(0), 0);
        check.due("new: the first ground", x.ground(), 0);
    }

    /** "THINGS have numbers as they come, at most 6"; "NONE if .. 6 came". */
    private static void thingsAtMostSix() {
        OverLine x = new OverLine();
        for (int i = 0; i < 6; i++) {
            check.due("before it came", x.jumps(i), -1);
            check.due("thing as it comes", x.thing(7 - i), i);
            check.due("as it came", x.jumps(i), 0);
        }
        check.due("seventh", x.thing(0), -1);
        check.due("eighth", x.thing(7), -1);
        check.due("none has number 6", x.jumps(6), -1);
        check.due("six", x.count(0), 6);
        check.due("the last has its own speed", x.see(5, 0, Check.at(30, 30), 0), 1);
        check.due("the last has its own speed", x.where(5, 1, 1), 32);
    }

    /** "NONE if SPEED can't be": the next THING has the number that this one would have had. */
    private static void aWrongSpeedTakesNoNumber() {
        OverLine x = new OverLine();
        check.due("speed -1", x.thing(-1), -1);
        check.due("speed 0", x.thing(0), 0);
        check.due("speed 8", x.thing(8), -1);
        check.due("speed 7", x.thing(7), 1);
        check.due("two", x.count(0), 2);
    }

    /** "from one TICK to the next x and y each change by SPEED at most." */
    private static void stepsAreSpeedAtMost() {
        for (int speed = 0; speed <= 7; speed++) {
            for (int tick : new int[] {39, 41}) {
                for (int[] way : new int[][] {{1, 0}, {-1, 0}, {0, 1}, {0, -1}, {1, 1}, {-1, 1}}) {
                    String call = "speed " + speed + ", tick " + tick + ", way " + way[0] + " " + way[1];
                    int last = Check.at(30 + speed * way[0], 30 + speed * way[1]);
                    int beyond = Check.at(30 + (speed + 1) * way[0], 30 + (speed + 1) * way[1]);
                    check.due(call + ", just so far", seen(speed, 40, 30, 30, 0).see(0, tick, last, 0), 2);
                    check.due(call + ", one too far", seen(speed, 40, 30, 30, 0).see(0, tick, beyond, 0), -1);
                }
                dueWhere("speed " + speed + ", tick " + tick, seen(speed, 40, 30, 30, 0), tick,
                    30 - speed, 30 + speed, 30 - speed, 30 + speed);
            }
        }
    }

    /** "a SPEED (0 .. 7)": with 0 it stands still, all the time. */
    private static void speedZeroNeverMoves() {
        OverLine x = seen(0, 40, 63, 0, 0);
        for (int tick = 0; tick < 80; tick++) {
            dueWhere("at " + tick, x, tick, 63, 63, 0, 0);
        }
    }

    /** "TICKS are 0 .. 79": a SIGHT at one end counts up to the other. */
    private static void sightsReachToTheFirstAndLastTick() {
        dueWhere("from 0 to 62", seen(1, 0, 0, 0, 0), 62, 0, 62, 0, 62);
        dueWhere("from 0 to 79", seen(0, 0, 5, 6, 0), 79, 5, 5, 6, 6);
        dueWhere("from 79 to 0", seen(0, 79, 5, 6, 0), 0, 5, 5, 6, 6);
        dueWhere("from 79 to 17", seen(1, 79, 63, 63, 0), 17, 1, 63, 1, 63);
        dueWhere("from 79 to 16", seen(1, 79, 63, 63, 0), 16, 0, 63, 0, 63);
        dueWhere("from 1 to 0", seen(3, 1, 20, 20, 0), 0, 17, 23, 17, 23);
        dueWhere("from 78 to 79", seen(3, 78, 20, 20, 0), 79, 17, 23, 17, 23);
        OverLine x = seen(1, 0, 30, 30, 2);
        check.due("a second one, at 1", x.see(0, 1, Check.at(33, 30), 0), 2);
        dueWhere("tick 0 by tick 1", x, 0, 32, 32, 29, 31);
        OverLine y = seen(1, 79, 30, 30, 2);
        check.due("a second one, at 78", y.see(0, 78, Check.at(30, 27), 0), 2);
        dueWhere("tick 79 by tick 78", y, 79, 29, 31, 28, 28);
    }

    /** "at that TICK its x and y were each not farther from these than that." */
    private static void radiusToTheLastPlace() {
        for (int radius = 0; radius <= 30; radius++) {
            OverLine x = seen(7, 40, 31, 32, radius);
            dueWhere("radius " + radius, x, 40, 31 - radius, 31 + radius, 32 - radius, 32 + radius);
            x.ground();
            x.draw(0, Check.at(31 + radius, 32 - radius), Check.at(31 + radius, 32 - radius), true);
            check.due("radius " + radius + ", its corner", x.state(0, 0, 40), radius == 0 ? 2 : 1);
            x.draw(0, 0, 4095, true);
            x.draw(0, Check.at(31 - radius, 32 - radius), Check.at(31 + radius, 32 + radius), false);
            check.due("radius " + radius + ", all around", x.state(0, 0, 40), 0);
        }
    }

    /** "a RADIUS (0 .. 63)", "places x, y (0 .. 63 each)": what is beyond the field is no place. */
    private static void radiusBeyondTheField() {
        dueWhere("63 around 0, 0", seen(7, 40, 0, 0, 63), 40, 0, 63, 0, 63);
        dueWhere("63 around 63, 63", seen(7, 40, 63, 63, 63), 40, 0, 63, 0, 63);
        dueWhere("62 around 0, 0", seen(7, 40, 0, 0, 62), 40, 0, 62, 0, 62);
        dueWhere("62 around 63, 63", seen(7, 40, 63, 63, 62), 40, 1, 63, 1, 63);
        dueWhere("0 around 0, 63", seen(7, 40, 0, 63, 0), 40, 0, 0, 63, 63);
        dueWhere("0 around 63, 0", seen(7, 40, 63, 0, 0), 40, 63, 63, 0, 0);
        dueWhere("1 around 0, 63", seen(7, 40, 0, 63, 1), 40, 0, 1, 62, 63);
        dueWhere("a step from 0, 63", seen(7, 40, 0, 63, 0), 41, 0, 7, 56, 63);
    }

    /** Where is x * 64 + y: behind 0, 63 comes 1, 0 as a number, not as a place. */
    private static void notByWrappingAroundTheField() {
        OverLine x = seen(1, 40, 10, 63, 1);
        check.due("behind the last y", x.see(0, 40, Check.at(11, 0), 0), -1);
        check.due("before the first y", seen(1, 40, 10, 0, 1).see(0, 40, Check.at(9, 63), 0), -1);
        check.due("behind the last y, a tick on", x.see(0, 41, Check.at(11, 0), 7), -1);
        check.due("behind the last x", seen(7, 40, 63, 9, 3).see(0, 41, Check.at(0, 9), 3), -1);
        check.due("before the first x", seen(7, 40, 0, 9, 3).see(0, 39, Check.at(63, 9), 3), -1);
    }

    /** "a SIGHT by which there would be none is a JUMP": one MOTION is enough that it is none. */
    private static void aSightThatJustCanBe() {
        OverLine x = seen(7, 0, 0, 0, 0);
        check.due("a field in nine ticks", x.see(0, 9, 4095, 0), 2);
        dueWhere("one way, nearly", x, 8, 56, 56, 56, 56);
        check.due("a field in eight ticks", seen(7, 0, 0, 0, 0).see(0, 8, 4095, 0), -1);
        check.due("a field in eight ticks, but for 7", seen(7, 0, 0, 0, 0).see(0, 8, 4095, 7), 2);
        check.due("a field in eight ticks, but for 6", seen(7, 0, 0, 0, 0).see(0, 8, 4095, 6), -1);
        check.due("all the time there is", seen(0, 0, 0, 0, 31).see(0, 79, 4095, 32), 2);
        check.due("all the time there is, one too far", seen(0, 0, 0, 0, 31).see(0, 79, 4095, 31), -1);
        check.due("x alone too far", seen(1, 0, 0, 0, 0).see(0, 5, Check.at(6, 0), 0), -1);
        check.due("y alone too far", seen(1, 0, 0, 0, 0).see(0, 5, Check.at(0, 6), 0), -1);
    }

    /** "MOTIONS that can be are those that keep all SIGHTS": not each alone. */
    private static void aSightBetweenTwo() {
        OverLine x = seen(2, 10, 10, 10, 1);
        check.due("the second", x.see(0, 20, Check.at(30, 10), 1), 2);
        dueWhere("between", x, 15, 19, 21, 0, 21);
        check.due("one short of it", x.see(0, 15, Check.at(18, 10), 0), -1);
        check.due("one beyond it", x.see(0, 15, Check.at(22, 10), 0), -1);
        check.due("two jumps", x.jumps(0), 2);
        check.due("the last that can be", x.see(0, 15, Check.at(21, 10), 0), 3);
        dueWhere("the first is sharper by it", x, 10, 11, 11, 9, 11);
    }

    /** Two SIGHTS of one TICK: they hold both, to the last place that they share. */
    private static void sightsOfOneTick() {
        OverLine x = seen(7, 40, 20, 20, 3);
        check.due("they share a corner", x.see(0, 40, Check.at(25, 15), 2), 2);
        dueWhere("the corner", x, 40, 23, 23, 17, 17);
        check.due("no place is shared, by x", seen(7, 40, 20, 20, 3).see(0, 40, Check.at(26, 20), 2), -1);
        check.due("no place is shared, by y", seen(7, 40, 20, 20, 3).see(0, 40, Check.at(20, 14), 2), -1);
        check.due("the same again", x.see(0, 40, Check.at(25, 15), 2), 3);
    }

    /** "it is left out." */
    private static void aJumpIsLeftOut() {
        OverLine x = seen(1, 10, 10, 10, 0);
        check.due("a jump", x.see(0, 12, Check.at(13, 10), 0), -1);
        dueWhere("as before", x, 12, 8, 12, 8, 12);
        check.due("the count is as before", x.count(1), 1);
        check.due("a sight that the jump would rule out", x.see(0, 12, Check.at(8, 8), 0), 2);
        check.due("the sight goes, not the jump", x.back(0), true);
        dueWhere("free again", x, 12, 8, 12, 8, 12);
        check.due("the first goes", x.back(0), true);
        check.due("the jump isn't there to go", x.back(0), false);
        check.due("it is still told", x.jumps(0), 1);
        check.due("it never comes in", x.where(0, 12, 4), 4096);
        check.due("now it can be", x.see(0, 12, Check.at(13, 10), 0), 1);
        check.due("which is no jump", x.jumps(0), 1);
    }

    private static void aJumpByTheFirstOrLastTick() {
        OverLine x = seen(1, 40, 30, 30, 0);
        check.due("behind", x.see(0, 79, 4095, 0), 2);
        check.due("before", x.see(0, 0, Check.at(63, 63), 0), 3);
        OverLine y = seen(1, 48, 30, 30, 0);
        check.due("at 79, just too far", y.see(0, 79, Check.at(62, 30), 0), -1);
        check.due("at 79, just not too far", y.see(0, 79, Check.at(61, 30), 0), 2);
        OverLine z = seen(1, 30, 30, 31, 0);
        check.due("at 0, just too far", z.see(0, 0, Check.at(30, 0), 0), -1);
        check.due("at 0, just not too far", z.see(0, 0, Check.at(30, 1), 0), 2);
    }

    /** "At most 12 SIGHTS of a THING": JUMPS are not among them. */
    private static void jumpsTakeNoRoom() {
        OverLine x = one(0);
        for (int i = 1; i <= 12; i++) {
            check.due("sight " + i, x.see(0, 5 * i, 100, 0), i);
            check.due("a jump at the same place in the row", x.see(0, 5 * i, 101, 0), -1);
        }
        check.due("jumps while there was room", x.jumps(0), 11);
        check.due("sights", x.count(1), 12);
    }

    /** "At most 12 SIGHTS of a THING"; "NONE if .. the THING has 12". */
    private static void sightsAtMostTwelve() {
        OverLine x = new OverLine();
        for (int thing = 0; thing < 6; thing++) {
            x.thing(7);
            for (int i = 1; i <= 12; i++) {
                check.due("sight " + i + " of " + thing, x.see(thing, 79, 4095, 63), i);
            }
            check.due("sight 13 of " + thing, x.see(thing, 0, 0, 0), -1);
            check.due("it isn't kept", x.where(thing, 0, 4), 4096);
        }
        check.due("72 in all", x.count(1), 72);
        check.due("one goes", x.back(3), true);
        check.due("71", x.count(1), 71);
        check.due("one comes", x.see(3, 0, 0, 0), 12);
        check.due("it is kept", x.where(3, 0, 4), 1);
        check.due("full again", x.see(3, 0, 0, 0), -1);
        check.due("full again", x.count(1), 72);
    }

    /** back: "true; false if there is none". */
    private static void backToTheFirst() {
        OverLine x = new OverLine();
        check.due("no thing", x.back(0), false);
        x.thing(1);
        x.thing(1);
        check.due("no sight yet", x.back(0), false);
        for (int i = 0; i < 12; i++) {
            x.see(0, 79 - i, Check.at(20 + i, 20), 12 - i);
        }
        x.see(1, 0, 0, 0);
        for (int i = 11; i >= 0; i--) {
            check.due("the last that came", x.where(0, 79 - i, 0) >= 8 + 2 * i, true);
            check.due("back " + i, x.back(0), true);
            check.due("left", x.count(1), i + 1);
        }
        check.due("none left", x.back(0), false);
        dueWhere("all is free", x, 40, 0, 63, 0, 63);
        check.due("the other's stays", x.where(1, 0, 4), 1);
        check.due("no jumps by this", x.jumps(0), 0);
    }

    /** jumps: "How many JUMPS there were of a THING; NONE if there is none such." */
    private static void jumpsFromNone() {
        OverLine x = new OverLine();
        check.due("no thing", x.jumps(0), -1);
        x.thing(0);
        x.thing(0);
        check.due("none yet", x.jumps(0), 0);
        x.see(0, 0, 0, 0);
        check.due("a sight is none", x.jumps(0), 0);
        for (int i = 1; i <= 40; i++) {
            check.due("too far", x.see(0, 79, i, 0), -1);
            check.due("jumps", x.jumps(0), i);
        }
        check.due("another's", x.jumps(1), 0);
        for (int wrong : new int[] {-1, 4096}) {
            check.due("no place", x.see(0, 0, wrong, 0), -1);
        }
        check.due("no tick", x.see(0, 80, 4095, 0), -1);
        check.due("no radius", x.see(0, 0, 4095, -1), -1);
        check.due("these were none", x.jumps(0), 40);
    }

    /** where: "4 at how many places": 1 to 4096. */
    private static void whereOfOnePlaceAndOfAll() {
        for (int tick : new int[] {0, 1, 40, 78, 79}) {
            dueWhere("never seen", one(0), tick, 0, 63, 0, 63);
            dueWhere("first place", seen(7, tick, 0, 0, 0), tick, 0, 0, 0, 0);
            dueWhere("last place", seen(7, tick, 63, 63, 0), tick, 63, 63, 63, 63);
            dueWhere("all but one edge in x", seen(7, tick, 0, 31, 62), tick, 0, 62, 0, 63);
            dueWhere("all but one edge in y", seen(7, tick, 31, 63, 62), tick, 0, 63, 1, 63);
        }
    }

    /** count: "0 THINGS, 1 SIGHTS of all, 2 GROUNDS": none to all. */
    private static void countsFromNoneToAll() {
        OverLine x = new OverLine();
        for (int i = 0; i <= 7; i++) {
            check.due("things", x.count(0), Math.min(i, 6));
            check.due("grounds", x.count(2), Math.min(i, 4));
            check.due("sights", x.count(1), Math.min(i, 6));
            x.thing(i);
            x.ground();
            x.see(i, i, 0, 0);
        }
    }
}
