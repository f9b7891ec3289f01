/**
 * Boundary cases of GROUNDS, STATE, ENTERED, STAY, LOOK and APART (promises 7 to 14): each method is for
 * one sentence of the document, which stands over it.
 */
public final class GroundEdgesTest {
    private static final Check check = new Check();

    public static void main(String[] args) {
        groundsAtMostFour();
        aGroundWithNoPlaces();
        aGroundWithAllPlaces();
        drawOfOnePlaceARowAndAll();
        drawOfWhatIsThereOrIsnt();
        theSecondCornerIsLess();
        noBoxGoesAroundTheField();
        stateByOnePlace();
        stateAtTheFirstAndLastTick();
        enteredAtAOrAtB();
        enteredOnlyFromAToB();
        enteredByEachMotion();
        aAboveB();
        stayCountsAAndB();
        stayFromNoneToAll();
        noStepAroundTheField();
        lookNeedsStateOut();
        lookIsBehindN();
        lookAtMaybeAndAtIn();
        lookIs79AtMost();
        lookIs79IfThereIsNone();
        lookBySightsBehindN();
        apartWhicheverIsMore();
        apartFromNoneToAll();
        apartOfNoTwo();
        check.end();
    }

    private static OverLine one(int speed) {
        OverLine x = new OverLine();
        x.thing(speed);
        x.ground();
        return x;
    }

    /** At tick 40 it is at 20, 20. */
    private static OverLine seen(int speed) {
        OverLine x = one(speed);
        x.see(0, 40, Check.at(20, 20), 0);
        return x;
    }

    private static int drawOne(OverLine x, int px, int py, boolean in) {
        return x.draw(0, Check.at(px, py), Check.at(px, py), in);
    }

    private static void dueStay(String call, OverLine x, int a, int b, int least, int most) {
        check.due(call + ", least", x.stay(0, 0, a, b, 0), least);
        check.due(call + ", most", x.stay(0, 0, a, b, 1), most);
    }

    /** "GROUNDS have numbers as they come, at most 4"; "NONE if 4 came." */
    private static void groundsAtMostFour() {
        OverLine x = new OverLine();
        for (int i = 0; i < 4; i++) {
            check.due("before it came", x.draw(i, 0, 4095, true), -1);
            check.due("ground as it comes", x.ground(), i);
            check.due("as it came", x.draw(i, 0, i, true), i + 1);
        }
        check.due("fifth", x.ground(), -1);
        check.due("sixth", x.ground(), -1);
        check.due("four", x.count(2), 4);
        check.due("none has number 4", x.draw(4, 0, 0, true), -1);
        check.due("the last is as it was", x.draw(3, 0, 0, true), 4);
    }

    /** "heaps of places, none at first": a GROUND that has no places, new or by a draw. */
    private static void aGroundWithNoPlaces() {
        OverLine emptied = seen(1);
        emptied.draw(0, 0, 4095, true);
        check.due("all go", emptied.draw(0, 0, 4095, false), 0);
        for (OverLine x : new OverLine[] {seen(1), emptied}) {
            check.due("none", x.draw(0, 0, 4095, false), 0);
            for (int where : new int[] {0, 63, 64, Check.at(20, 20), 4032, 4095}) {
                check.due("has " + where, x.has(0, where), false);
            }
            for (int tick : new int[] {0, 39, 40, 41, 79}) {
                check.due("state", x.state(0, 0, tick), 0);
                check.due("look", x.look(0, 0, tick, 0), 79);
            }
            check.due("entered", x.entered(0, 0, 0, 79), -1);
            check.due("entered at one tick", x.entered(0, 0, 40, 40), -1);
            dueStay("stay", x, 0, 79, 0, 0);
            dueStay("stay at one tick", x, 40, 40, 0, 0);
        }
    }

    private static void aGroundWithAllPlaces() {
        OverLine x = seen(7);
        check.due("all", x.draw(0, 0, 4095, true), 4096);
        for (int where : new int[] {0, 63, 64, Check.at(20, 20), 4032, 4095}) {
            check.due("has " + where, x.has(0, where), true);
        }
        for (int tick : new int[] {0, 39, 40, 41, 79}) {
            check.due("state", x.state(0, 0, tick), 2);
            check.due("look", x.look(0, 0, tick, 0), -1);
            check.due("entered at one tick", x.entered(0, 0, tick, tick), tick);
            check.due("entered from it on", x.entered(0, 0, tick, 79), tick);
            dueStay("stay", x, 0, tick, tick + 1, tick + 1);
        }
        check.due("all but one", drawOne(x, 63, 63, false), 4095);
        check.due("maybe, by one place", x.state(0, 0, 0), 1);
    }

    /** "All places from one corner to another one": both corners, and one place is a box, too. */
    private static void drawOfOnePlaceARowAndAll() {
        for (int where : new int[] {0, 63, 64, 2080, 4032, 4095}) {
            OverLine x = one(0);
            check.due("one place", x.draw(0, where, where, true), 1);
            check.due("it", x.has(0, where), true);
            check.due("not the one before", x.has(0, where - 1), false);
            check.due("not the one behind", x.has(0, where + 1), false);
            check.due("not a row before", x.has(0, where - 64), false);
            check.due("not a row behind", x.has(0, where + 64), false);
            check.due("it goes", x.draw(0, where, where, false), 0);
        }
        check.due("equal x", one(0).draw(0, Check.at(63, 0), Check.at(63, 63), true), 64);
        check.due("equal y", one(0).draw(0, Check.at(0, 63), Check.at(63, 63), true), 64);
        check.due("all", one(0).draw(0, 0, 4095, true), 4096);
        check.due("all but two edges", one(0).draw(0, 0, Check.at(62, 62), true), 63 * 63);
    }

    /** "come to it, or go": what is there can come again, and what isn't can go. */
    private static void drawOfWhatIsThereOrIsnt() {
        OverLine x = one(0);
        check.due("goes, of none", x.draw(0, Check.at(5, 5), Check.at(9, 9), false), 0);
        check.due("comes", x.draw(0, Check.at(5, 5), Check.at(9, 9), true), 25);
        check.due("comes again", x.draw(0, Check.at(5, 5), Check.at(9, 9), true), 25);
        check.due("comes, one shared", x.draw(0, Check.at(9, 9), Check.at(10, 10), true), 28);
        check.due("goes, one shared", x.draw(0, Check.at(4, 4), Check.at(5, 5), false), 27);
        check.due("goes again", x.draw(0, Check.at(4, 4), Check.at(5, 5), false), 27);
        check.due("all come", x.draw(0, 0, 4095, true), 4096);
        check.due("all come again", x.draw(0, 0, 4095, true), 4096);
    }

    /** "or the second one's x or y is less": each alone, both, by one, and though its number is more. */
    private static void theSecondCornerIsLess() {
        OverLine x = one(0);
        check.due("x less by one", x.draw(0, Check.at(5, 5), Check.at(4, 9), true), -1);
        check.due("y less by one", x.draw(0, Check.at(5, 5), Check.at(9, 4), true), -1);
        check.due("both", x.draw(0, Check.at(5, 5), Check.at(4, 4), true), -1);
        check.due("next number, y less", x.draw(0, Check.at(0, 63), Check.at(1, 0), true), -1);
        check.due("last against first", x.draw(0, 4095, 0, true), -1);
        check.due("y 1 against 0", x.draw(0, 1, 0, false), -1);
        check.due("x 1 against 0", x.draw(0, 64, 0, false), -1);
        check.due("neither", x.draw(0, Check.at(5, 5), Check.at(5, 5), true), 1);
    }

    private static void noBoxGoesAroundTheField() {
        OverLine x = one(0);
        check.due("two places at the last y", x.draw(0, Check.at(3, 62), Check.at(3, 63), true), 2);
        check.due("the next number isn't", x.has(0, Check.at(4, 0)), false);
        check.due("two rows at the last y", x.draw(0, Check.at(3, 63), Check.at(4, 63), true), 3);
        check.due("between them as numbers", x.has(0, Check.at(4, 10)), false);
        check.due("two places at the last x", x.draw(0, Check.at(62, 3), Check.at(63, 3), true), 5);
        check.due("the first x isn't", x.has(0, Check.at(0, 3)), false);
    }

    /** STATE: "0 OUT, if at no place ..; 2 IN, if all places ..; 1 MAYBE, else": by each single place. */
    private static void stateByOnePlace() {
        OverLine x = one(7);
        x.see(0, 40, Check.at(20, 30), 1);
        for (int px = 18; px <= 22; px++) {
            for (int py = 28; py <= 32; py++) {
                boolean can = Math.abs(px - 20) <= 1 && Math.abs(py - 30) <= 1;
                x.draw(0, 0, 4095, false);
                drawOne(x, px, py, true);
                check.due("this place alone, " + px + " " + py, x.state(0, 0, 40), can ? 1 : 0);
                x.draw(0, 0, 4095, true);
                drawOne(x, px, py, false);
                check.due("all but this place, " + px + " " + py, x.state(0, 0, 40), can ? 1 : 2);
            }
        }
    }

    private static void stateAtTheFirstAndLastTick() {
        OverLine x = one(1);
        x.see(0, 0, Check.at(20, 20), 0);
        x.see(0, 79, Check.at(30, 30), 0);
        drawOne(x, 20, 20, true);
        check.due("in at 0", x.state(0, 0, 0), 2);
        check.due("maybe at 1", x.state(0, 0, 1), 1);
        check.due("out at 79", x.state(0, 0, 79), 0);
        check.due("the last tick to go from it", x.state(0, 0, 69), 1);
        check.due("too late to go from it", x.state(0, 0, 70), 0);
    }

    /** "the first TICK t of these": a and b are among them. */
    private static void enteredAtAOrAtB() {
        OverLine x = seen(1);
        x.draw(0, Check.at(20, 20), Check.at(20, 20), true);
        check.due("at a", x.entered(0, 0, 40, 79), 40);
        check.due("at b", x.entered(0, 0, 0, 40), 40);
        check.due("at both", x.entered(0, 0, 40, 40), 40);
        check.due("b is before", x.entered(0, 0, 0, 39), -1);
        check.due("a is behind", x.entered(0, 0, 41, 79), -1);
        OverLine first = one(1);
        first.see(0, 0, 0, 0);
        drawOne(first, 0, 0, true);
        check.due("at 0", first.entered(0, 0, 0, 79), 0);
        check.due("at 0 alone", first.entered(0, 0, 0, 0), 0);
        OverLine last = one(1);
        last.see(0, 79, 4095, 0);
        drawOne(last, 63, 63, true);
        check.due("at 79", last.entered(0, 0, 0, 79), 79);
        check.due("at 79 alone", last.entered(0, 0, 79, 79), 79);
        check.due("to 78", last.entered(0, 0, 0, 78), -1);
    }

    /** "at one TICK, a to t, at least": a TICK before a is not enough. */
    private static void enteredOnlyFromAToB() {
        OverLine x = one(1);
        x.see(0, 10, Check.at(20, 20), 0);
        x.see(0, 20, Check.at(20, 20), 0);
        drawOne(x, 20, 20, true);
        check.due("the first counts", x.entered(0, 0, 10, 20), 10);
        check.due("the first counts no more", x.entered(0, 0, 11, 20), 20);
        check.due("neither", x.entered(0, 0, 11, 19), -1);
        check.due("neither, the last", x.entered(0, 0, 21, 79), -1);
    }

    /** "by each MOTION that can be"; "NONE if .. by some MOTION it is never in": one is enough. */
    private static void enteredByEachMotion() {
        OverLine x = one(1);
        x.see(0, 10, Check.at(20, 20), 0);
        x.see(0, 20, Check.at(30, 20), 0);
        x.draw(0, Check.at(25, 15), Check.at(25, 25), true);
        check.due("on the only way", x.entered(0, 0, 10, 20), 15);
        drawOne(x, 25, 25, false);
        check.due("by one corner it is never in", x.entered(0, 0, 10, 20), -1);
        dueStay("by one corner it is never in", x, 10, 20, 0, 1);
        drawOne(x, 25, 25, true);
        drawOne(x, 25, 14, false);
        check.due("where it can't be counts not", x.entered(0, 0, 10, 20), 15);
    }

    /** "NONE if .. a is above b": by one it is, equal they may be. */
    private static void aAboveB() {
        OverLine x = one(1);
        x.draw(0, 0, 4095, true);
        for (int a = 0; a < 80; a++) {
            check.due("equal", x.entered(0, 0, a, a), a);
            dueStay("equal", x, a, a, 1, 1);
            check.due("above", x.entered(0, 0, a, a - 1), -1);
        }
        for (int a = 1; a < 80; a += 13) {
            dueStay("above by one", x, a, a - 1, -1, -1);
        }
        dueStay("above by all", x, 79, 0, -1, -1);
    }

    /** STAY: "at how many of these TICKS": both ends are among them. */
    private static void stayCountsAAndB() {
        OverLine x = one(1);
        x.see(0, 10, Check.at(20, 20), 0);
        x.see(0, 20, Check.at(20, 20), 0);
        drawOne(x, 20, 20, true);
        dueStay("both", x, 10, 20, 2, 11);
        dueStay("not the first", x, 11, 20, 1, 10);
        dueStay("not the last", x, 10, 19, 1, 10);
        dueStay("neither", x, 11, 19, 0, 9);
        dueStay("the first alone", x, 10, 10, 1, 1);
        dueStay("one behind", x, 11, 11, 0, 1);
    }

    /** "the least and the most": 0 to 80. */
    private static void stayFromNoneToAll() {
        OverLine x = one(0);
        drawOne(x, 63, 63, true);
        dueStay("anywhere", x, 0, 79, 0, 80);
        x.see(0, 79, 4095, 1);
        dueStay("near", x, 0, 79, 0, 80);
        x.see(0, 0, 4095, 0);
        dueStay("in", x, 0, 79, 80, 80);
        dueStay("in, but for a tick", x, 0, 78, 79, 79);
        drawOne(x, 63, 63, false);
        dueStay("out", x, 0, 79, 0, 0);
    }

    /**
     * From the last y no step goes to the first, and so for x: free are one place at tick 40 and one at
     * tick 41, and they are at opposite ends.
     */
    private static void noStepAroundTheField() {
        for (int speed = 1; speed <= 7; speed++) {
            for (int next = 9; next <= 11; next++) {
                dueNoStep(speed, Check.at(10, 63), Check.at(next, 0), Check.at(32, 33), Check.at(32, 30));
                dueNoStep(speed, Check.at(10, 0), Check.at(next, 63), Check.at(32, 30), Check.at(32, 33));
                dueNoStep(speed, Check.at(63, 10), Check.at(0, next), Check.at(33, 32), Check.at(30, 32));
                dueNoStep(speed, Check.at(0, 10), Check.at(63, next), Check.at(30, 32), Check.at(33, 32));
            }
        }
    }

    private static void dueNoStep(int speed, int free, int next, int firstSight, int secondSight) {
        OverLine x = one(speed);
        x.draw(0, 0, 4095, true);
        x.draw(0, free, free, false);
        x.draw(0, next, next, false);
        x.see(0, 40, firstSight, 32);
        x.see(0, 41, secondSight, 32);
        String call = "speed " + speed + ", " + free + " to " + next;
        check.due(call + ", maybe at 40", x.state(0, 0, 40), 1);
        check.due(call + ", maybe at 41", x.state(0, 0, 41), 1);
        check.due(call, x.entered(0, 0, 40, 41), 41);
        dueStay(call, x, 40, 41, 1, 2);
    }

    /** look: "NONE if .. STATE at the TICK isn't 0." */
    private static void lookNeedsStateOut() {
        OverLine x = seen(1);
        x.draw(0, Check.at(19, 19), Check.at(21, 21), true);
        check.due("in", x.state(0, 0, 41), 2);
        check.due("from in", x.look(0, 0, 41, 0), -1);
        check.due("maybe", x.state(0, 0, 42), 1);
        check.due("from maybe", x.look(0, 0, 42, 0), -1);
        check.due("from maybe at the last tick", x.look(0, 0, 79, 0), -1);
        x.draw(0, Check.at(20, 20), Check.at(20, 20), false);
        check.due("out", x.state(0, 0, 40), 0);
        check.due("from out", x.look(0, 0, 40, 0), 41);
    }

    /** "the first TICK behind n at which its STATE isn't 0": n + 1 is the first there is. */
    private static void lookIsBehindN() {
        OverLine x = seen(1);
        drawOne(x, 25, 20, true);
        check.due("from far", x.look(0, 0, 40, 0), 45);
        check.due("from the tick before", x.look(0, 0, 44, 0), 45);
        check.due("from that tick", x.look(0, 0, 45, 0), -1);
        check.due("a tick before n counts not", x.look(0, 0, 36, 0), 45);
        check.due("it isn't out there", x.look(0, 0, 35, 0), -1);
    }

    /** "isn't 0": MAYBE is enough, and IN is, too. */
    private static void lookAtMaybeAndAtIn() {
        OverLine x = seen(7);
        x.see(0, 41, Check.at(27, 27), 0);
        drawOne(x, 27, 27, true);
        check.due("in at the next tick", x.state(0, 0, 41), 2);
        check.due("from out to in", x.look(0, 0, 40, 0), 41);
        check.due("from out to in, and more", x.look(0, 0, 40, 30), 71);
        x.back(0);
        check.due("maybe at the next tick", x.state(0, 0, 41), 1);
        check.due("from out to maybe", x.look(0, 0, 40, 0), 41);
    }

    /** "and DELAY more (79 at most)". */
    private static void lookIs79AtMost() {
        OverLine x = seen(1);
        drawOne(x, 30, 20, true);
        for (int delay = 0; delay < 80; delay++) {
            check.due("delay " + delay, x.look(0, 0, 40, delay), Math.min(79, 50 + delay));
        }
        check.due("no more delay than 79", x.look(0, 0, 40, 80), -1);
        check.due("no less than 0", x.look(0, 0, 40, -1), -1);
        OverLine late = one(1);
        late.see(0, 40, Check.at(20, 20), 0);
        drawOne(late, 59, 20, true);
        check.due("79 itself", late.look(0, 0, 40, 0), 79);
        check.due("79 itself, and more", late.look(0, 0, 40, 1), 79);
        check.due("79 itself, and most", late.look(0, 0, 78, 79), 79);
    }

    /** "79, if there is none." */
    private static void lookIs79IfThereIsNone() {
        OverLine x = seen(1);
        drawOne(x, 60, 20, true);
        for (int delay : new int[] {0, 1, 5, 79}) {
            check.due("just out of reach", x.look(0, 0, 40, delay), 79);
            check.due("just out of reach, from 78", x.look(0, 0, 78, delay), 79);
            check.due("none is behind the last tick", x.look(0, 0, 79, delay), 79);
        }
        OverLine once = one(1);
        once.see(0, 0, Check.at(20, 20), 0);
        once.see(0, 20, Check.at(40, 20), 0);
        once.see(0, 79, Check.at(63, 20), 0);
        drawOne(once, 21, 20, true);
        check.due("maybe before n", once.state(0, 0, 1), 1);
        check.due("maybe before n alone", once.look(0, 0, 2, 0), 79);
        OverLine still = one(0);
        still.see(0, 79, 0, 0);
        drawOne(still, 0, 1, true);
        check.due("it never comes", still.look(0, 0, 0, 0), 79);
    }

    /** "(SIGHTS behind n count, too.)" */
    private static void lookBySightsBehindN() {
        OverLine x = seen(1);
        drawOne(x, 25, 20, true);
        check.due("by none behind n", x.look(0, 0, 40, 0), 45);
        x.see(0, 46, Check.at(20, 20), 0);
        check.due("by one behind n", x.look(0, 0, 40, 0), 51);
        check.due("maybe at n", x.look(0, 0, 57, 0), -1);
        x.see(0, 62, Check.at(15, 20), 4);
        check.due("out at n by one behind n, and from there on", x.look(0, 0, 57, 0), 68);
        x.see(0, 79, Check.at(10, 20), 0);
        check.due("too late to come back from it", x.look(0, 0, 57, 0), 79);
    }

    private static OverLine two(int ax, int ay, int bx, int by, int radius) {
        OverLine x = new OverLine();
        x.thing(7);
        x.thing(7);
        x.see(0, 40, Check.at(ax, ay), radius);
        x.see(1, 40, Check.at(bx, by), radius);
        return x;
    }

    private static void dueApart(String call, OverLine x, int least, int most) {
        for (int a = 0; a < 2; a++) {
            check.due(call + ", least", x.apart(a, 1 - a, 40, 0), least);
            check.due(call + ", most", x.apart(a, 1 - a, 40, 1), most);
        }
    }

    /** "how far their x or their y are from one another, whichever is more". */
    private static void apartWhicheverIsMore() {
        dueApart("x more", two(10, 10, 20, 19, 0), 10, 10);
        dueApart("y more", two(10, 10, 19, 20, 0), 10, 10);
        dueApart("equal", two(10, 20, 20, 10, 0), 10, 10);
        dueApart("x alone", two(10, 10, 20, 10, 0), 10, 10);
        dueApart("y alone", two(10, 10, 10, 20, 0), 10, 10);
        dueApart("x more, not sharp", two(10, 10, 20, 17, 2), 6, 14);
        dueApart("y more, not sharp", two(17, 20, 10, 10, 2), 6, 14);
        dueApart("next to one another", two(10, 10, 15, 10, 2), 1, 9);
        dueApart("they share a corner", two(10, 10, 14, 14, 2), 0, 8);
        dueApart("they overlap", two(10, 10, 13, 13, 2), 0, 7);
        dueApart("the same", two(10, 10, 10, 10, 2), 0, 4);
    }

    /** "the least and the most that can be": 0 to 63. */
    private static void apartFromNoneToAll() {
        dueApart("one place", two(63, 63, 63, 63, 0), 0, 0);
        dueApart("neighbours", two(63, 63, 62, 63, 0), 1, 1);
        dueApart("corners", two(0, 0, 63, 63, 0), 63, 63);
        dueApart("other corners", two(0, 63, 63, 0, 0), 63, 63);
        dueApart("ends of x", two(0, 7, 63, 7, 0), 63, 63);
        dueApart("ends of y", two(7, 63, 7, 0, 0), 63, 63);
        dueApart("anywhere", two(0, 0, 63, 63, 63), 0, 63);
        dueApart("edges cut by the field", two(0, 0, 63, 63, 31), 1, 63);
    }

    /** "NONE if there is none such, or both are one." */
    private static void apartOfNoTwo() {
        OverLine x = two(0, 0, 5, 5, 0);
        check.due("both are one", x.apart(0, 0, 40, 0), -1);
        check.due("both are one, most", x.apart(1, 1, 40, 1), -1);
        check.due("both are one that isn't", x.apart(2, 2, 40, 0), -1);
        check.due("the second isn't", x.apart(0, 2, 40, 0), -1);
        check.due("the first isn't", x.apart(2, 0, 40, 0), -1);
        check.due("both are", x.apart(0, 1, 40, 0), 5);
    }
}
