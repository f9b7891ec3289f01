import java.util.ArrayList;
import java.util.List;

/**
 * A plain model of the document: places one by one, no boxes and no bits. Where a thing can be is
 * found place by place, from the first tick on and from the last tick back.
 */
final class Model {
    private final List<Thing> things = new ArrayList<>();
    private final List<boolean[]> grounds = new ArrayList<>();

    private static final class Thing {
        final int speed;
        final List<int[]> sights = new ArrayList<>();
        boolean[][] can;
        int jumps = 0;

        Thing(int speed) {
            this.speed = speed;
            can = placesOf(this);
        }
    }

    private static boolean keeps(Thing thing, int tick, int place) {
        for (int[] sight : thing.sights) {
            boolean far = Math.abs(place / 64 - sight[1] / 64) > sight[2] || Math.abs(place % 64 - sight[1] % 64) > sight[2];
            if (sight[0] == tick && far) {
                return false;
            }
        }
        return true;
    }

    /** For each place the least of all that are near it; x first, then y. */
    private static int[] leastNear(int[] values, int speed) {
        int[] half = new int[4096];
        int[] whole = new int[4096];
        for (int p = 0; p < 4096; p++) {
            half[p] = values[p];
            for (int x = Math.max(0, p / 64 - speed); x <= Math.min(63, p / 64 + speed); x++) {
                half[p] = Math.min(half[p], values[x * 64 + p % 64]);
            }
        }
        for (int p = 0; p < 4096; p++) {
            whole[p] = half[p];
            for (int y = Math.max(0, p % 64 - speed); y <= Math.min(63, p % 64 + speed); y++) {
                whole[p] = Math.min(whole[p], half[p / 64 * 64 + y]);
            }
        }
        return whole;
    }

    private static final int NEVER = 1000;

    private static boolean[][] placesOf(Thing thing) {
        int[][] forth = new int[80][];
        int[][] back = new int[80][];
        for (int t = 0; t < 80; t++) {
            forth[t] = keepSights(thing, t, t == 0 ? new int[4096] : leastNear(forth[t - 1], thing.speed));
        }
        for (int t = 79; t >= 0; t--) {
            back[t] = keepSights(thing, t, t == 79 ? new int[4096] : leastNear(back[t + 1], thing.speed));
        }
        boolean[][] can = new boolean[80][4096];
        for (int t = 0; t < 80; t++) {
            for (int p = 0; p < 4096; p++) {
                can[t][p] = forth[t][p] == 0 && back[t][p] == 0;
            }
        }
        return can;
    }

    private static int[] keepSights(Thing thing, int tick, int[] values) {
        for (int p = 0; p < 4096; p++) {
            if (!keeps(thing, tick, p)) {
                values[p] = NEVER;
            }
        }
        return values;
    }

    private static boolean in(int value, int low, int high) {
        return value >= low && value <= high;
    }

    private boolean isThing(int thing) {
        return in(thing, 0, things.size() - 1);
    }

    private boolean isGround(int ground) {
        return in(ground, 0, grounds.size() - 1);
    }

    int thing(int speed) {
        if (!in(speed, 0, 7) || things.size() == 6) {
            return -1;
        }
        things.add(new Thing(speed));
        return things.size() - 1;
    }

    int see(int number, int tick, int where, int radius) {
        if (!isThing(number) || !in(tick, 0, 79) || !in(where, 0, 4095) || !in(radius, 0, 63)) {
            return -1;
        }
        Thing thing = things.get(number);
        if (thing.sights.size() == 12) {
            return -1;
        }
        thing.sights.add(new int[] {tick, where, radius});
        boolean[][] can = placesOf(thing);
        if (size(can[0]) == 0) {
            thing.sights.remove(thing.sights.size() - 1);
            thing.jumps++;
            return -1;
        }
        thing.can = can;
        return thing.sights.size();
    }

    boolean back(int number) {
        if (!isThing(number) || things.get(number).sights.isEmpty()) {
            return false;
        }
        Thing thing = things.get(number);
        thing.sights.remove(thing.sights.size() - 1);
        thing.can = placesOf(thing);
        return true;
    }

    int jumps(int number) {
        return isThing(number) ? things.get(number).jumps : -1;
    }

    private static int size(boolean[] places) {
        int all = 0;
        for (boolean place : places) {
            all += place ? 1 : 0;
        }
        return all;
    }

    int where(int number, int tick, int what) {
        if (!isThing(number) || !in(tick, 0, 79) || !in(what, 0, 4)) {
            return -1;
        }
        boolean[] can = things.get(number).can[tick];
        int[] bounds = {63, 0, 63, 0, size(can)};
        for (int p = 0; p < 4096; p++) {
            if (can[p]) {
                bounds[0] = Math.min(bounds[0], p / 64);
                bounds[1] = Math.max(bounds[1], p / 64);
                bounds[2] = Math.min(bounds[2], p % 64);
                bounds[3] = Math.max(bounds[3], p % 64);
            }
        }
        return bounds[what];
    }

    int ground() {
        if (grounds.size() == 4) {
            return -1;
        }
        grounds.add(new boolean[4096]);
        return grounds.size() - 1;
    }

    int draw(int number, int corner, int other, boolean come) {
        if (!isGround(number) || !in(corner, 0, 4095) || !in(other, 0, 4095)) {
            return -1;
        }
        if (other / 64 < corner / 64 || other % 64 < corner % 64) {
            return -1;
        }
        boolean[] ground = grounds.get(number);
        for (int p = 0; p < 4096; p++) {
            if (in(p / 64, corner / 64, other / 64) && in(p % 64, corner % 64, other % 64)) {
                ground[p] = come;
            }
        }
        return size(ground);
    }

    boolean has(int number, int where) {
        return isGround(number) && in(where, 0, 4095) && grounds.get(number)[where];
    }

    int state(int number, int ground, int tick) {
        if (!isThing(number) || !isGround(ground) || !in(tick, 0, 79)) {
            return -1;
        }
        boolean some = false;
        boolean all = true;
        for (int p = 0; p < 4096; p++) {
            if (things.get(number).can[tick][p]) {
                some |= grounds.get(ground)[p];
                all &= grounds.get(ground)[p];
            }
        }
        return all ? 2 : some ? 1 : 0;
    }

    /** The least number of ticks from a to b with the thing where the ground is as told. */
    private int fewest(Thing thing, boolean[] ground, boolean told, int a, int b) {
        int[] values = new int[4096];
        for (int t = a; t <= b; t++) {
            values = t == a ? values : leastNear(values, thing.speed);
            for (int p = 0; p < 4096; p++) {
                values[p] = thing.can[t][p] ? values[p] + (ground[p] == told ? 1 : 0) : NEVER;
            }
        }
        int least = NEVER;
        for (int value : values) {
            least = Math.min(least, value);
        }
        return least;
    }

    int entered(int number, int ground, int a, int b) {
        if (!isThing(number) || !isGround(ground) || !in(a, 0, 79) || !in(b, a, 79)) {
            return -1;
        }
        int[] values = new int[4096];
        for (int t = a; t <= b; t++) {
            values = t == a ? values : leastNear(values, things.get(number).speed);
            boolean free = false;
            for (int p = 0; p < 4096; p++) {
                if (!things.get(number).can[t][p] || grounds.get(ground)[p]) {
                    values[p] = NEVER;
                }
                free |= values[p] == 0;
            }
            if (!free) {
                return t;
            }
        }
        return -1;
    }

    int stay(int number, int ground, int a, int b, int what) {
        if (!isThing(number) || !isGround(ground) || !in(a, 0, 79) || !in(b, a, 79) || !in(what, 0, 1)) {
            return -1;
        }
        int fewest = fewest(things.get(number), grounds.get(ground), what == 0, a, b);
        return what == 0 ? fewest : b - a + 1 - fewest;
    }

    int look(int number, int ground, int tick, int delay) {
        if (!in(delay, 0, 79) || state(number, ground, tick) != 0) {
            return -1;
        }
        int later = tick + 1;
        while (later < 80 && state(number, ground, later) == 0) {
            later++;
        }
        return later >= 80 ? 79 : Math.min(79, later + delay);
    }

    int apart(int a, int b, int tick, int what) {
        if (!isThing(a) || !isThing(b) || a == b || !in(tick, 0, 79) || !in(what, 0, 1)) {
            return -1;
        }
        int least = 64;
        int most = -1;
        for (int p = 0; p < 4096; p++) {
            for (int q = 0; q < 4096 && things.get(a).can[tick][p]; q++) {
                if (things.get(b).can[tick][q]) {
                    int far = Math.max(Math.abs(p / 64 - q / 64), Math.abs(p % 64 - q % 64));
                    least = Math.min(least, far);
                    most = Math.max(most, far);
                }
            }
        }
        return what == 0 ? least : most;
    }

    int count(int what) {
        int sights = 0;
        for (Thing thing : things) {
            sights += thing.sights.size();
        }
        return what == 0 ? things.size() : what == 1 ? sights : what == 2 ? grounds.size() : -1;
    }
}
