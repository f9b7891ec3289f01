/** Promises 7 to 9: ground, draw, has. */
public final class GroundsTest {
    private static final Check check = new Check();

    public static void main(String[] args) {
        atMostFour();
        boxesComeAndGo();
        edgesOfTheField();
        wrongDraws();
        wrongHas();
        check.end();
    }

    private static void atMostFour() {
        OverLine x = new OverLine();
        for (int i = 0; i < 4; i++) {
            check.due("has before it came", x.has(i, 0), false);
            check.due("draw before it came", x.draw(i, 0, 0, true), -1);
            check.due("ground " + i, x.ground(), i);
            check.due("none at first", x.draw(i, 0, 0, false), 0);
        }
        check.due("fifth", x.ground(), -1);
        check.due("grounds", x.count(2), 4);
        check.due("draw the fifth", x.draw(4, 0, 0, true), -1);
        x.draw(2, 70, 70, true);
        for (int i = 0; i < 4; i++) {
            check.due("each its own places", x.has(i, 70), i == 2);
        }
    }

    private static void boxesComeAndGo() {
        OverLine x = new OverLine();
        x.ground();
        check.due("a box", x.draw(0, Check.at(10, 20), Check.at(12, 24), true), 15);
        check.due("the same again", x.draw(0, Check.at(10, 20), Check.at(12, 24), true), 15);
        check.due("one that overlaps", x.draw(0, Check.at(12, 24), Check.at(13, 26), true), 20);
        check.due("a hole", x.draw(0, Check.at(11, 21), Check.at(11, 22), false), 18);
        check.due("the hole again", x.draw(0, Check.at(11, 21), Check.at(11, 22), false), 18);
        for (int px = 8; px < 16; px++) {
            for (int py = 18; py < 30; py++) {
                boolean first = px >= 10 && px <= 12 && py >= 20 && py <= 24;
                boolean second = px >= 12 && px <= 13 && py >= 24 && py <= 26;
                boolean hole = px == 11 && (py == 21 || py == 22);
                check.due("has " + px + " " + py, x.has(0, Check.at(px, py)), (first || second) && !hole);
            }
        }
        check.due("more than it has goes", x.draw(0, Check.at(0, 0), Check.at(63, 23), false), 8);
    }

    private static void edgesOfTheField() {
        OverLine x = new OverLine();
        x.ground();
        check.due("one corner", x.draw(0, 0, 0, true), 1);
        check.due("other corner", x.draw(0, 4095, 4095, true), 2);
        check.due("has corner", x.has(0, 4095), true);
        check.due("last column", x.draw(0, 63, 4095, true), 65);
        check.due("a row", x.draw(0, Check.at(7, 0), Check.at(7, 63), true), 128);
        check.due("all", x.draw(0, 0, 4095, true), 4096);
        check.due("all but the edge", x.draw(0, Check.at(1, 1), Check.at(62, 62), false), 4096 - 62 * 62);
        check.due("none", x.draw(0, 0, 4095, false), 0);
    }

    private static void wrongDraws() {
        OverLine x = new OverLine();
        x.ground();
        x.draw(0, 0, 0, true);
        int[][] wrong = {
            {-1, 0, 0}, {1, 0, 0}, {4, 0, 0}, {Integer.MIN_VALUE, 0, 0}, {Integer.MAX_VALUE, 0, 0},
            {0, -1, 5}, {0, 0, 4096}, {0, 4096, 4096}, {0, Integer.MIN_VALUE, 5}, {0, 0, Integer.MAX_VALUE},
            {0, Check.at(5, 5), Check.at(4, 6)}, {0, Check.at(5, 5), Check.at(6, 4)}, {0, Check.at(5, 5), Check.at(4, 4)}};
        for (int[] w : wrong) {
            check.due("draw(" + w[0] + ", " + w[1] + ", " + w[2] + ", in)", x.draw(w[0], w[1], w[2], true), -1);
            check.due("draw(" + w[0] + ", " + w[1] + ", " + w[2] + ", out)", x.draw(w[0], w[1], w[2], false), -1);
        }
        check.due("as before", x.draw(0, 1, 1, false), 1);
        check.due("has as before", x.has(0, 0), true);
    }

    private static void wrongHas() {
        OverLine x = new OverLine();
        x.ground();
        x.draw(0, 0, 4095, true);
        for (int wrong : new int[] {-1, 4096, Integer.MIN_VALUE, Integer.MAX_VALUE}) {
            check.due("has place " + wrong, x.has(0, wrong), false);
        }
        for (int wrong : new int[] {-1, 1, 4, Integer.MIN_VALUE, Integer.MAX_VALUE}) {
            check.due("has ground " + wrong, x.has(wrong, 0), false);
        }
    }
}
