import java.util.ArrayList;
import java.util.List;
import java.util.Random;

/**
 * Answers against the document's own words: all motions over a few ticks are made one by one.
 * All sights are in these ticks, so that before and behind them every motion can go on.
 */
public final class MotionsTest {
    private static final Check check = new Check();
    private static final int[] STARTS = {0, 1, 7, 62, 63};

    private final Random random;
    private final OverLine over = new OverLine();
    private final int speed;
    private final int from;
    private final int length;
    private final List<int[]> sights = new ArrayList<>();
    // Held here, too: to ask for each place of each motion would go far beyond an object's 512 calls.
    private final boolean[] ground = new boolean[4096];
    private List<int[]> motions = new ArrayList<>();
    private int jumps = 0;

    private MotionsTest(int seed, int speed, int length) {
        random = new Random(seed);
        this.speed = speed;
        this.length = length;
        // At the edges of time, too.
        from = random.nextInt(3) == 0 ? 0 : random.nextInt(3) == 0 ? 80 - length : random.nextInt(81 - length);
    }

    public static void main(String[] args) {
        for (int seed = 0; seed < 60 && check.isClean(); seed++) {
            new MotionsTest(seed, 0, 6).run();
            new MotionsTest(seed, 1, 5).run();
            new MotionsTest(seed, 2, 3).run();
            new MotionsTest(seed, 3, 3).run();
            new MotionsTest(seed, 7, 2).run();
        }
        check.end();
    }

    private void run() {
        over.thing(speed);
        over.ground();
        int x = STARTS[random.nextInt(STARTS.length)];
        int y = STARTS[random.nextInt(STARTS.length)];
        int radius = random.nextInt(2);
        over.see(0, from, Check.at(x, y), radius);
        sights.add(new int[] {from, x, y, radius});
        for (int px = Math.max(0, x - radius); px <= Math.min(63, x + radius); px++) {
            for (int py = Math.max(0, y - radius); py <= Math.min(63, y + radius); py++) {
                int[] motion = new int[length];
                motion[0] = Check.at(px, py);
                goOn(motion, 1);
            }
        }
        for (int round = 0; round < 4; round++) {
            drawNear(x, y);
            compare();
            seeNear(x, y);
        }
    }

    private void goOn(int[] motion, int next) {
        if (next == length) {
            motions.add(motion.clone());
            return;
        }
        int x = motion[next - 1] / 64;
        int y = motion[next - 1] % 64;
        for (int px = Math.max(0, x - speed); px <= Math.min(63, x + speed); px++) {
            for (int py = Math.max(0, y - speed); py <= Math.min(63, y + speed); py++) {
                motion[next] = Check.at(px, py);
                goOn(motion, next + 1);
            }
        }
    }

    private int near(int middle, int range) {
        return Math.max(0, Math.min(63, middle - range + random.nextInt(2 * range + 1)));
    }

    private void drawNear(int x, int y) {
        int range = speed * length + 1;
        for (int i = 0; i < 3; i++) {
            int ax = near(x, range);
            int ay = near(y, range);
            int bx = Math.min(63, ax + random.nextInt(range));
            int by = Math.min(63, ay + random.nextInt(range));
            for (int place = Check.at(ax, ay); place <= Check.at(bx, by); place++) {
                ground[place] = place % 64 < ay || place % 64 > by ? ground[place] : i != 1;
            }
            int all = 0;
            for (boolean place : ground) {
                all += place ? 1 : 0;
            }
            check.due("draw", over.draw(0, Check.at(ax, ay), Check.at(bx, by), i != 1), all);
        }
    }

    private void seeNear(int x, int y) {
        int tick = from + random.nextInt(length);
        int sx = near(x, speed * length + 1);
        int sy = near(y, speed * length + 1);
        int radius = random.nextInt(speed * 2 + 2);
        List<int[]> left = new ArrayList<>();
        for (int[] motion : motions) {
            int place = motion[tick - from];
            if (Math.abs(place / 64 - sx) <= radius && Math.abs(place % 64 - sy) <= radius) {
                left.add(motion);
            }
        }
        int got = over.see(0, tick, Check.at(sx, sy), radius);
        if (left.isEmpty()) {
            jumps++;
            check.due("a jump", got, -1);
        } else {
            motions = left;
            sights.add(new int[] {tick, sx, sy, radius});
            check.due("a sight", got, sights.size());
        }
        check.due("jumps", over.jumps(0), jumps);
    }

    private void compare() {
        for (int i = 0; i < length; i++) {
            comparePlaces(i);
            for (int j = i; j < length; j++) {
                compareStretch(i, j);
            }
        }
    }

    private void comparePlaces(int i) {
        boolean[] can = new boolean[4096];
        int lowX = 63;
        int highX = 0;
        int lowY = 63;
        int highY = 0;
        for (int[] motion : motions) {
            can[motion[i]] = true;
            lowX = Math.min(lowX, motion[i] / 64);
            highX = Math.max(highX, motion[i] / 64);
            lowY = Math.min(lowY, motion[i] % 64);
            highY = Math.max(highY, motion[i] % 64);
        }
        int all = 0;
        int in = 0;
        for (int place = 0; place < 4096; place++) {
            all += can[place] ? 1 : 0;
            in += can[place] && ground[place] ? 1 : 0;
        }
        check.due("least x", over.where(0, from + i, 0), lowX);
        check.due("greatest x", over.where(0, from + i, 1), highX);
        check.due("least y", over.where(0, from + i, 2), lowY);
        check.due("greatest y", over.where(0, from + i, 3), highY);
        check.due("places", over.where(0, from + i, 4), all);
        check.due("state", over.state(0, 0, from + i), in == 0 ? 0 : in == all ? 2 : 1);
    }

    private void compareStretch(int i, int j) {
        int least = length;
        int most = 0;
        int entered = i;
        for (int[] motion : motions) {
            int in = 0;
            int first = length;
            for (int t = i; t <= j; t++) {
                if (ground[motion[t]]) {
                    in++;
                    first = Math.min(first, t);
                }
            }
            least = Math.min(least, in);
            most = Math.max(most, in);
            entered = Math.max(entered, first);
        }
        check.due("least stay", over.stay(0, 0, from + i, from + j, 0), least);
        check.due("most stay", over.stay(0, 0, from + i, from + j, 1), most);
        check.due("entered", over.entered(0, 0, from + i, from + j), entered == length ? -1 : from + entered);
    }
}
