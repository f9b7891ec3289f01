import java.util.Random;

/** Random runs of calls, the same ones each time, answered by the class and by the plain model. */
public final class ModelTest {
    private static final Check check = new Check();
    private static final int CALLS_OF_AN_OBJECT = 512;
    private static final int MOST_CALLS_OF_A_STEP = 8;
    private static final int[] WILD = {-1, -2, 64, 80, 4096, Integer.MIN_VALUE, Integer.MAX_VALUE};

    private final Random random;
    private final OverLine over = new OverLine();
    private final Model model = new Model();
    private final int wildOneIn;
    private final int middle;
    private final int range;
    private final String name;

    private ModelTest(int seed) {
        random = new Random(seed);
        name = "seed " + seed + ": ";
        wildOneIn = seed % 2 == 0 ? 40 : 400;
        middle = random.nextInt(64);
        range = 4 + random.nextInt(30);
    }

    public static void main(String[] args) {
        int runs = args.length > 0 ? Integer.parseInt(args[0]) : 12;
        for (int seed = 0; seed < runs && check.isClean(); seed++) {
            new ModelTest(seed).run();
        }
        check.end();
    }

    private void run() {
        int last = check.asked() + CALLS_OF_AN_OBJECT - MOST_CALLS_OF_A_STEP;
        int callsBefore = random.nextInt(4);
        for (int i = 0; i < callsBefore; i++) {
            call(random.nextInt(14));
        }
        make();
        make();
        for (int i = 0; i < 100 && check.isClean() && check.asked() <= last; i++) {
            call(random.nextInt(14));
        }
    }

    private void make() {
        int speed = random.nextInt(8);
        check.due(name + "thing(" + speed + ")", over.thing(speed), model.thing(speed));
        check.due(name + "ground()", over.ground(), model.ground());
        draw();
        see();
    }

    private int wild(int usual) {
        return random.nextInt(wildOneIn) == 0 ? WILD[random.nextInt(WILD.length)] : usual;
    }

    private int number(int most) {
        return wild(random.nextInt(12) == 0 ? random.nextInt(most + 1) : random.nextInt(2));
    }

    /** The ends of a limit come far more often than by chance. */
    private int endOr(int usual, int most) {
        int which = random.nextInt(16);
        return which == 0 ? 0 : which == 1 ? most : usual;
    }

    private int tick() {
        return wild(endOr(random.nextInt(80), 79));
    }

    private int near() {
        if (random.nextInt(16) == 0) {
            return random.nextInt(2) * 63;
        }
        return Math.max(0, Math.min(63, middle - range + random.nextInt(2 * range + 1)));
    }

    private int place() {
        return wild(Check.at(near(), near()));
    }

    private void call(int which) {
        switch (which) {
            case 0 -> make();
            case 1, 2 -> see();
            case 3 -> back();
            case 4 -> where();
            case 5 -> draw();
            case 6 -> state();
            case 7, 8 -> entered();
            case 9, 10 -> stay();
            case 11 -> look();
            case 12 -> apart();
            default -> small();
        }
    }

    private void see() {
        int thing = number(6);
        int tick = tick();
        int where = place();
        int radius = wild(endOr(random.nextInt(6) == 0 ? random.nextInt(64) : random.nextInt(6), 63));
        check.due(name + "see(" + thing + ", " + tick + ", " + where + ", " + radius + ")",
            over.see(thing, tick, where, radius), model.see(thing, tick, where, radius));
        check.due(name + "jumps(" + thing + ")", over.jumps(thing), model.jumps(thing));
    }

    private void back() {
        int thing = number(6);
        check.due(name + "back(" + thing + ")", over.back(thing), model.back(thing));
    }

    private void where() {
        int thing = number(6);
        int tick = tick();
        for (int what = -1; what <= 5; what++) {
            check.due(name + "where(" + thing + ", " + tick + ", " + what + ")",
                over.where(thing, tick, what), model.where(thing, tick, what));
        }
    }

    private void draw() {
        int ground = number(4);
        int ax = near();
        int ay = near();
        int corner = wild(Check.at(ax, ay));
        boolean turned = random.nextInt(20) == 0;
        int bx = turned ? near() : Math.min(63, ax + random.nextInt(range));
        int by = turned ? near() : Math.min(63, ay + random.nextInt(range));
        int other = wild(random.nextInt(10) == 0 ? 4095 : Check.at(bx, by));
        boolean in = random.nextInt(3) != 0;
        check.due(name + "draw(" + ground + ", " + corner + ", " + other + ", " + in + ")",
            over.draw(ground, corner, other, in), model.draw(ground, corner, other, in));
    }

    private void state() {
        int thing = number(6);
        int ground = number(4);
        for (int i = 0; i < 5; i++) {
            int tick = tick();
            check.due(name + "state(" + thing + ", " + ground + ", " + tick + ")",
                over.state(thing, ground, tick), model.state(thing, ground, tick));
        }
    }

    private void entered() {
        int thing = number(6);
        int ground = number(4);
        int a = tick();
        int b = random.nextInt(10) == 0 ? tick() : wild(Math.min(79, a) + random.nextInt(80 - Math.max(0, Math.min(79, a))));
        check.due(name + "entered(" + thing + ", " + ground + ", " + a + ", " + b + ")",
            over.entered(thing, ground, a, b), model.entered(thing, ground, a, b));
    }

    private void stay() {
        int thing = number(6);
        int ground = number(4);
        int a = random.nextInt(3) == 0 ? 0 : tick();
        int b = random.nextInt(10) == 0 ? tick() : wild(Math.min(79, a) + random.nextInt(80 - Math.max(0, Math.min(79, a))));
        for (int what = 0; what <= 1; what++) {
            check.due(name + "stay(" + thing + ", " + ground + ", " + a + ", " + b + ", " + what + ")",
                over.stay(thing, ground, a, b, what), model.stay(thing, ground, a, b, what));
        }
        int wrong = wild(2);
        check.due(name + "stay what " + wrong, over.stay(thing, ground, a, b, wrong), model.stay(thing, ground, a, b, wrong));
    }

    private void look() {
        int thing = number(6);
        int ground = number(4);
        int delay = wild(endOr(random.nextInt(random.nextInt(5) == 0 ? 80 : 8), 79));
        for (int i = 0; i < 8; i++) {
            int tick = tick();
            check.due(name + "look(" + thing + ", " + ground + ", " + tick + ", " + delay + ")",
                over.look(thing, ground, tick, delay), model.look(thing, ground, tick, delay));
        }
    }

    private void apart() {
        int a = number(6);
        int b = random.nextInt(10) == 0 ? a : number(6);
        int tick = tick();
        for (int what = -1; what <= 2; what++) {
            check.due(name + "apart(" + a + ", " + b + ", " + tick + ", " + what + ")",
                over.apart(a, b, tick, what), model.apart(a, b, tick, what));
        }
    }

    private void small() {
        for (int what = -1; what <= 3; what++) {
            check.due(name + "count(" + what + ")", over.count(what), model.count(what));
        }
        int ground = number(4);
        int where = place();
        check.due(name + "has(" + ground + ", " + where + ")", over.has(ground, where), model.has(ground, where));
        int thing = number(6);
        check.due(name + "jumps(" + thing + ")", over.jumps(thing), model.jumps(thing));
    }
}
