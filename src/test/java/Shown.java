import java.util.ArrayList;
import java.util.List;

/**
 * All that later calls show of a watch, in parts: each part asks a watch of its own some 400 times,
 * so that the calls that made it and these stay within the 512 of an object.
 */
final class Shown {
    /** One part: the answers of a watch, always to the same calls. */
    interface Part {
        List<Integer> of(OverLine watch);
    }

    private static final int PLACES_OF_A_PART = 400;

    private Shown() {
    }

    static List<Part> parts() {
        List<Part> parts = new ArrayList<>();
        for (int i = 0; i < 6; i++) {
            int thing = i;
            parts.add(x -> reach(x, thing));
        }
        for (int i = 0; i < 4; i++) {
            int ground = i;
            for (int first = 0; first < 4096; first += PLACES_OF_A_PART) {
                int from = first;
                parts.add(x -> places(x, ground, from));
            }
        }
        parts.add(Shown::states);
        parts.add(Shown::stretches);
        parts.add(Shown::distances);
        parts.add(Shown::whatComesNext);
        parts.add(Shown::sightsFromTheLastBack);
        return parts;
    }

    static List<Integer> jumps(OverLine x) {
        List<Integer> all = new ArrayList<>();
        for (int thing = 0; thing < 6; thing++) {
            all.add(x.jumps(thing));
        }
        return all;
    }

    private static List<Integer> reach(OverLine x, int thing) {
        List<Integer> all = new ArrayList<>();
        for (int tick = 0; tick < 80; tick++) {
            for (int what = 0; what < 5; what++) {
                all.add(x.where(thing, tick, what));
            }
        }
        return all;
    }

    private static List<Integer> places(OverLine x, int ground, int from) {
        List<Integer> all = new ArrayList<>();
        for (int where = from; where < Math.min(4096, from + PLACES_OF_A_PART); where++) {
            all.add(Calls.toInt(x.has(ground, where)));
        }
        return all;
    }

    private static List<Integer> states(OverLine x) {
        List<Integer> all = new ArrayList<>();
        for (int thing = 0; thing < 6; thing++) {
            for (int ground = 0; ground < 4; ground++) {
                for (int tick = 0; tick < 80; tick += 9) {
                    all.add(x.state(thing, ground, tick));
                }
                all.add(x.look(thing, ground, 30, 2));
            }
        }
        return all;
    }

    private static List<Integer> stretches(OverLine x) {
        List<Integer> all = new ArrayList<>();
        for (int thing = 0; thing < 6; thing++) {
            for (int ground = 0; ground < 4; ground++) {
                all.add(x.entered(thing, ground, 0, 79));
                all.add(x.stay(thing, ground, 0, 79, 0));
                all.add(x.stay(thing, ground, 0, 79, 1));
                all.add(x.entered(thing, ground, 20, 33));
                all.add(x.stay(thing, ground, 20, 33, 0));
                all.add(x.stay(thing, ground, 20, 33, 1));
            }
        }
        return all;
    }

    private static List<Integer> distances(OverLine x) {
        List<Integer> all = new ArrayList<>();
        for (int a = 0; a < 6; a++) {
            for (int b = a + 1; b < 6; b++) {
                for (int tick = 5; tick < 80; tick += 20) {
                    all.add(x.apart(a, b, tick, 0));
                    all.add(x.apart(b, a, tick, 1));
                }
            }
        }
        return all;
    }

    /** The numbers that new ones get tell how many came. */
    private static List<Integer> whatComesNext(OverLine x) {
        List<Integer> all = new ArrayList<>();
        for (int what = 0; what < 3; what++) {
            all.add(x.count(what));
        }
        for (int thing = 0; thing < 6; thing++) {
            all.add(x.see(thing, 0, 0, 63));
        }
        for (int ground = 0; ground < 4; ground++) {
            all.add(x.draw(ground, 4095, 4095, true));
        }
        for (int i = 0; i < 7; i++) {
            all.add(x.thing(i));
        }
        for (int i = 0; i < 5; i++) {
            all.add(x.ground());
        }
        return all;
    }

    private static List<Integer> sightsFromTheLastBack(OverLine x) {
        List<Integer> all = new ArrayList<>();
        for (int thing = 0; thing < 6; thing++) {
            for (int i = 0; i < 13; i++) {
                all.add(Calls.toInt(x.back(thing)));
                all.add(x.count(1));
                all.add(x.where(thing, 0, 4));
                all.add(x.where(thing, 40, 4));
                all.add(x.where(thing, 79, 4));
            }
            // With no sight left a sharp one shows the speed.
            all.add(x.see(thing, 40, Check.at(30, 30), 0));
            all.add(x.where(thing, 41, 0));
            all.add(x.where(thing, 39, 3));
        }
        return all;
    }
}
