/**
 * A watch on grounds: where things that move can be by all that was seen of them,
 * and what that tells about the grounds they may be in.
 */
public final class OverLine {
    public static final int NONE = -1;

    private static final int SIDE = 64;
    private static final int PLACES = SIDE * SIDE;
    private static final int TICKS = 80;
    private static final int LAST_TICK = TICKS - 1;
    private static final int MOST_SPEED = 7;
    private static final int MOST_THINGS = 6;
    private static final int MOST_SIGHTS = 12;
    private static final int MOST_GROUNDS = 4;

    private static final int OUT = 0;
    private static final int MAYBE = 1;
    private static final int IN = 2;

    private static final int LEAST = 0;
    private static final int MOST = 1;

    private final Thing[] things;
    private final Places[] grounds;
    private final Places outside;
    private final Tally tally;
    private int thingsMade;
    private int groundsMade;

    public OverLine() {
        things = new Thing[MOST_THINGS];
        grounds = new Places[MOST_GROUNDS];
        outside = new Places();
        tally = new Tally();
        thingsMade = 0;
        groundsMade = 0;
    }

    public int thing(int speed) {
        if (speed < 0 || speed > MOST_SPEED || thingsMade >= MOST_THINGS) {
            return NONE;
        }
        things[thingsMade] = new Thing(speed);
        thingsMade++;
        return thingsMade - 1;
    }

    public int see(int thing, int tick, int where, int radius) {
        Thing seen = thingOf(thing);
        if (seen == null || !isTick(tick) || !isPlace(where) || radius < 0 || radius >= SIDE) {
            return NONE;
        }
        return seen.takeSight(tick, where, radius) ? seen.sights() : NONE;
    }

    public boolean back(int thing) {
        Thing seen = thingOf(thing);
        return seen != null && seen.dropSight();
    }

    public int jumps(int thing) {
        Thing seen = thingOf(thing);
        return seen == null ? NONE : seen.leftOut();
    }

    public int where(int thing, int tick, int what) {
        Thing mover = thingOf(thing);
        if (mover == null || !isTick(tick)) {
            return NONE;
        }
        Box box = mover.reachAt(tick);
        switch (what) {
            case 0:
                return box.lowX;
            case 1:
                return box.highX;
            case 2:
                return box.lowY;
            case 3:
                return box.highY;
            case 4:
                return box.size();
            default:
                return NONE;
        }
    }

    public int ground() {
        if (groundsMade >= MOST_GROUNDS) {
            return NONE;
        }
        grounds[groundsMade] = new Places();
        groundsMade++;
        return groundsMade - 1;
    }

    public int draw(int ground, int corner, int other, boolean in) {
        Places drawn = groundOf(ground);
        if (drawn == null || !isPlace(corner) || !isPlace(other)) {
            return NONE;
        }
        Box box = new Box(xOf(corner), xOf(other), yOf(corner), yOf(other));
        if (box.isEmpty()) {
            return NONE;
        }
        if (in) {
            drawn.add(box);
        } else {
            drawn.remove(box);
        }
        return drawn.size();
    }

    public boolean has(int ground, int where) {
        Places asked = groundOf(ground);
        return asked != null && isPlace(where) && asked.holds(xOf(where), yOf(where));
    }

    public int state(int thing, int ground, int tick) {
        Thing mover = thingOf(thing);
        Places asked = groundOf(ground);
        if (mover == null || asked == null || !isTick(tick)) {
            return NONE;
        }
        return stateOf(mover, asked, tick);
    }

    public int entered(int thing, int ground, int a, int b) {
        Thing mover = thingOf(thing);
        Places asked = groundOf(ground);
        if (mover == null || asked == null || !isStretch(a, b)) {
            return NONE;
        }
        outside.setTo(mover.reachAt(a));
        outside.drop(asked);
        int tick = a;
        while (tick < b && !outside.isEmpty()) {
            tick++;
            mover.advance(outside, tick);
            outside.drop(asked);
        }
        return outside.isEmpty() ? tick : NONE;
    }

    public int stay(int thing, int ground, int a, int b, int what) {
        Thing mover = thingOf(thing);
        Places asked = groundOf(ground);
        if (mover == null || asked == null || !isStretch(a, b)) {
            return NONE;
        }
        switch (what) {
            case LEAST:
                return tally.fewest(mover, asked, a, b);
            case MOST:
                // As long in the ground as can be is as short outside it as can be.
                outside.setToAllBut(asked);
                return b - a + 1 - tally.fewest(mover, outside, a, b);
            default:
                return NONE;
        }
    }

    public int look(int thing, int ground, int tick, int delay) {
        Thing mover = thingOf(thing);
        Places asked = groundOf(ground);
        if (mover == null || asked == null || !isTick(tick)) {
            return NONE;
        }
        if (delay < 0 || delay > LAST_TICK || stateOf(mover, asked, tick) != OUT) {
            return NONE;
        }
        for (int later = tick + 1; later < TICKS; later++) {
            if (stateOf(mover, asked, later) != OUT) {
                return Math.min(later + delay, LAST_TICK);
            }
        }
        return LAST_TICK;
    }

    public int apart(int a, int b, int tick, int what) {
        Thing one = thingOf(a);
        Thing other = thingOf(b);
        if (one == null || other == null || a == b || !isTick(tick)) {
            return NONE;
        }
        Box here = one.reachAt(tick);
        Box there = other.reachAt(tick);
        switch (what) {
            case LEAST:
                return here.leastApart(there);
            case MOST:
                return here.mostApart(there);
            default:
                return NONE;
        }
    }

    public int count(int what) {
        switch (what) {
            case 0:
                return thingsMade;
            case 1:
                return sightsOfAll();
            case 2:
                return groundsMade;
            default:
                return NONE;
        }
    }

    private int sightsOfAll() {
        int all = 0;
        for (Thing each : things) {
            if (each != null) {
                all += each.sights();
            }
        }
        return all;
    }

    private Thing thingOf(int number) {
        return number >= 0 && number < thingsMade ? things[number] : null;
    }

    private Places groundOf(int number) {
        return number >= 0 && number < groundsMade ? grounds[number] : null;
    }

    private static int stateOf(Thing mover, Places ground, int tick) {
        Box box = mover.reachAt(tick);
        if (!ground.meets(box)) {
            return OUT;
        }
        return ground.covers(box) ? IN : MAYBE;
    }

    private static boolean isTick(int tick) {
        return tick >= 0 && tick < TICKS;
    }

    private static boolean isStretch(int a, int b) {
        return isTick(a) && isTick(b) && a <= b;
    }

    private static boolean isPlace(int where) {
        return where >= 0 && where < PLACES;
    }

    private static int xOf(int where) {
        return where / SIDE;
    }

    private static int yOf(int where) {
        return where % SIDE;
    }

    /** All places with x and y between two bounds each, the bounds included. */
    private static final class Box {
        private int lowX;
        private int highX;
        private int lowY;
        private int highY;

        Box(int lowX, int highX, int lowY, int highY) {
            this.lowX = lowX;
            this.highX = highX;
            this.lowY = lowY;
            this.highY = highY;
        }

        void setToField() {
            lowX = 0;
            highX = SIDE - 1;
            lowY = 0;
            highY = SIDE - 1;
        }

        void keepAround(int x, int y, int radius) {
            lowX = Math.max(lowX, x - radius);
            highX = Math.min(highX, x + radius);
            lowY = Math.max(lowY, y - radius);
            highY = Math.min(highY, y + radius);
        }

        void keepNear(Box other, int distance) {
            lowX = Math.max(lowX, other.lowX - distance);
            highX = Math.min(highX, other.highX + distance);
            lowY = Math.max(lowY, other.lowY - distance);
            highY = Math.min(highY, other.highY + distance);
        }

        boolean isEmpty() {
            return lowX > highX || lowY > highY;
        }

        int size() {
            return (highX - lowX + 1) * (highY - lowY + 1);
        }

        /** The places of one row, a bit for each y; the box holds a place. */
        long rowBits() {
            return (-1L >>> (SIDE - 1 - (highY - lowY))) << lowY;
        }

        int leastApart(Box other) {
            int inX = Math.max(lowX - other.highX, other.lowX - highX);
            int inY = Math.max(lowY - other.highY, other.lowY - highY);
            return Math.max(0, Math.max(inX, inY));
        }

        int mostApart(Box other) {
            int inX = Math.max(highX - other.lowX, other.highX - lowX);
            int inY = Math.max(highY - other.lowY, other.highY - lowY);
            return Math.max(inX, inY);
        }
    }

    /**
     * What was seen of a thing, and where it can be at each tick. x and y move freely of
     * one another and every sight is a box, so the places where it can be are always a box.
     */
    private static final class Thing {
        private final int speed;
        private final int[] ticks;
        private final int[] wheres;
        private final int[] radii;
        private final Box[] reach;
        private int sightsKept;
        private int sightsLeftOut;

        Thing(int speed) {
            this.speed = speed;
            ticks = new int[MOST_SIGHTS];
            wheres = new int[MOST_SIGHTS];
            radii = new int[MOST_SIGHTS];
            reach = new Box[TICKS];
            for (int tick = 0; tick < TICKS; tick++) {
                reach[tick] = new Box(0, SIDE - 1, 0, SIDE - 1);
            }
            sightsKept = 0;
            sightsLeftOut = 0;
        }

        int sights() {
            return sightsKept;
        }

        int leftOut() {
            return sightsLeftOut;
        }

        Box reachAt(int tick) {
            return reach[tick];
        }

        boolean takeSight(int tick, int where, int radius) {
            // A thing with all its sights refuses before it is asked whether this one is a jump.
            if (sightsKept >= MOST_SIGHTS) {
                return false;
            }
            ticks[sightsKept] = tick;
            wheres[sightsKept] = where;
            radii[sightsKept] = radius;
            sightsKept++;
            settle();
            if (!canMove()) {
                sightsKept--;
                sightsLeftOut++;
                settle();
                return false;
            }
            return true;
        }

        boolean dropSight() {
            if (sightsKept <= 0) {
                return false;
            }
            sightsKept--;
            settle();
            return true;
        }

        /** The given places, reached a tick before, become those that it can go on to. */
        void advance(Places from, int tick) {
            from.widen(speed);
            from.keep(reach[tick]);
        }

        private boolean canMove() {
            for (int tick = 0; tick < TICKS; tick++) {
                if (reach[tick].isEmpty()) {
                    return false;
                }
            }
            return true;
        }

        private void settle() {
            for (int tick = 0; tick < TICKS; tick++) {
                reach[tick].setToField();
            }
            for (int i = 0; i < sightsKept; i++) {
                reach[ticks[i]].keepAround(xOf(wheres[i]), yOf(wheres[i]), radii[i]);
            }
            for (int tick = 1; tick < TICKS; tick++) {
                reach[tick].keepNear(reach[tick - 1], speed);
            }
            for (int tick = TICKS - 2; tick >= 0; tick--) {
                reach[tick].keepNear(reach[tick + 1], speed);
            }
        }
    }

    /** A heap of places: a row of bits for each x, a bit for each y. */
    private static final class Places {
        private final long[] rows;

        Places() {
            rows = new long[SIDE];
        }

        boolean holds(int x, int y) {
            return (rows[x] >>> y & 1L) != 0;
        }

        int size() {
            int all = 0;
            for (int x = 0; x < SIDE; x++) {
                all += Long.bitCount(rows[x]);
            }
            return all;
        }

        boolean isEmpty() {
            for (int x = 0; x < SIDE; x++) {
                if (rows[x] != 0) {
                    return false;
                }
            }
            return true;
        }

        boolean meets(Box box) {
            long bits = box.rowBits();
            for (int x = box.lowX; x <= box.highX; x++) {
                if ((rows[x] & bits) != 0) {
                    return true;
                }
            }
            return false;
        }

        boolean covers(Box box) {
            long bits = box.rowBits();
            for (int x = box.lowX; x <= box.highX; x++) {
                if ((rows[x] & bits) != bits) {
                    return false;
                }
            }
            return true;
        }

        void add(Box box) {
            long bits = box.rowBits();
            for (int x = box.lowX; x <= box.highX; x++) {
                rows[x] |= bits;
            }
        }

        void remove(Box box) {
            long bits = box.rowBits();
            for (int x = box.lowX; x <= box.highX; x++) {
                rows[x] &= ~bits;
            }
        }

        void keep(Box box) {
            long bits = box.rowBits();
            for (int x = 0; x < SIDE; x++) {
                rows[x] = x < box.lowX || x > box.highX ? 0 : rows[x] & bits;
            }
        }

        void setTo(Box box) {
            long bits = box.rowBits();
            for (int x = 0; x < SIDE; x++) {
                rows[x] = x < box.lowX || x > box.highX ? 0 : bits;
            }
        }

        void setToAllBut(Places others) {
            for (int x = 0; x < SIDE; x++) {
                rows[x] = ~others.rows[x];
            }
        }

        void drop(Places others) {
            for (int x = 0; x < SIDE; x++) {
                rows[x] &= ~others.rows[x];
            }
        }

        /** Within the given places this takes over what the other heap holds there. */
        void takeWithin(Places within, Places other) {
            for (int x = 0; x < SIDE; x++) {
                long bits = within.rows[x];
                rows[x] = rows[x] & ~bits | other.rows[x] & bits;
            }
        }

        /** Every place brings all places not farther from it than this in x and in y. */
        void widen(int distance) {
            int reached = 0;
            while (reached < distance) {
                // At the field's edge a place has spread over reached + 1 places only:
                // a longer step would leave a gap.
                int step = Math.min(reached + 1, distance - reached);
                spread(step);
                reached += step;
            }
        }

        private void spread(int step) {
            for (int x = 0; x < SIDE; x++) {
                rows[x] |= rows[x] << step | rows[x] >>> step;
            }
            // Each way meets its sources before it changes them, so no second heap is needed.
            for (int x = SIDE - 1; x >= step; x--) {
                rows[x] |= rows[x - step];
            }
            for (int x = 0; x < SIDE - step; x++) {
                rows[x] |= rows[x + step];
            }
        }
    }

    /** Finds at how few ticks of a stretch a thing can be in counted places. */
    private static final class Tally {
        // levels[k]: where the thing can be if it was in counted places at k ticks at most.
        private final Places[] levels;
        // Levels below this one are empty.
        private int first;
        // This level and all above stand for every place where the thing can be; none of
        // them is written out before the next tick needs it.
        private int full;

        Tally() {
            levels = new Places[TICKS + 1];
            for (int k = 0; k <= TICKS; k++) {
                levels[k] = new Places();
            }
            first = 0;
            full = 0;
        }

        int fewest(Thing mover, Places counted, int a, int b) {
            first = 0;
            full = 0;
            for (int tick = a; tick <= b; tick++) {
                advance(mover, tick);
                countTick(counted);
                narrow(mover.reachAt(tick));
            }
            return first;
        }

        private void advance(Thing mover, int tick) {
            for (int k = first; k < full; k++) {
                mover.advance(levels[k], tick);
            }
            levels[full].setTo(mover.reachAt(tick));
        }

        private void countTick(Places counted) {
            // From the top down, so that each level still finds the one below as it was.
            for (int k = full; k > first; k--) {
                levels[k].takeWithin(counted, levels[k - 1]);
            }
            levels[first].drop(counted);
            if (full < TICKS) {
                full++;
            }
        }

        private void narrow(Box box) {
            while (first < full && levels[first].isEmpty()) {
                first++;
            }
            while (full > first && levels[full - 1].covers(box)) {
                full--;
            }
        }
    }
}
