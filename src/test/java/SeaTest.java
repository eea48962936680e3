/** Promises 1 to 5: the sea, its depths, shores and buoys, and the minutes of travel. */
public final class SeaTest {
    public static void main(String[] args) {
        sizes();
        costs();
        wrongDepths();
        depthsUnderThings();
        shores();
        buoys();
        travels();
        detours();
        Check.end();
    }

    private static void sizes() {
        int[][] cases = {
            {3, 100, 4, 12}, {100, 3, 20, 4}, {4, 4, 4, 4}, {20, 12, 20, 12}, {21, 13, 20, 12}, {5, 11, 5, 11},
            {-7, 0, 4, 4}, {Integer.MIN_VALUE, Integer.MAX_VALUE, 4, 12}, {Integer.MAX_VALUE, Integer.MIN_VALUE, 20, 4}};
        for (int[] c : cases) {
            GreatWave wave = new GreatWave(c[0], c[1]);
            String name = "sea " + c[0] + " by " + c[1];
            Check.due(name + ": last square", wave.travel(c[2] - 1, c[3] - 1, c[2] - 1, c[3] - 1), 0);
            Check.due(name + ": too far right", wave.travel(c[2], 0, 0, 0), -1);
            Check.due(name + ": too far down", wave.travel(0, c[3], 0, 0), -1);
            Check.due(name + ": depth 1,000 at first", wave.travel(0, 0, 1, 0), 7);
            for (int what = 0; what <= 7; what++) {
                Check.due(name + ": count(" + what + ")", wave.count(what), 0);
            }
        }
    }

    /** Two squares of the depths, with land around them: by a side, then by a corner. */
    private static void costs() {
        int[][] cases = {
            {1, 1, 101, 141}, {3, 3, 101, 141}, {4, 4, 67, 93}, {8, 8, 67, 93}, {1, 4, 84, 117},
            {25, 9, 42, 58}, {8000, 8000, 3, 4}, {7921, 7921, 3, 4}, {7920, 7920, 3, 4}, {4355, 4355, 4, 5},
            {4356, 4356, 3, 4}, {8000, 1, 52, 72}, {1000, 1000, 7, 9}, {1023, 1024, 7, 9}, {25, 1000, 20, 28}};
        for (int[] c : cases) {
            GreatWave wave = new GreatWave(4, 4);
            wave.depth(0, 0, 3, 3, 0);
            wave.depth(0, 0, 0, 0, c[0]);
            wave.depth(1, 0, 1, 0, c[1]);
            Check.due("side of " + c[0] + " and " + c[1], wave.travel(0, 0, 1, 0), c[2]);
            wave.depth(1, 0, 1, 0, 0);
            wave.depth(1, 1, 1, 1, c[1]);
            Check.due("corner of " + c[0] + " and " + c[1], wave.travel(0, 0, 1, 1), c[3]);
            Check.due("corner back", wave.travel(1, 1, 0, 0), c[3]);
        }
    }

    private static void wrongDepths() {
        GreatWave wave = new GreatWave(6, 5);
        int[][] wrong = {
            {0, 0, 6, 0, 9}, {0, 0, 0, 5, 9}, {-1, 0, 0, 0, 9}, {0, -1, 0, 0, 9}, {1, 0, 0, 0, 9}, {0, 1, 0, 0, 9},
            {0, 0, 5, 4, -1}, {0, 0, 5, 4, 8001}, {6, 0, 6, 0, 9}, {0, 5, 0, 5, 9}, {0, 0, Integer.MAX_VALUE, 4, 9},
            {Integer.MIN_VALUE, 0, 5, 4, 9}, {0, 0, 5, 4, Integer.MIN_VALUE}, {0, 0, 5, 4, Integer.MAX_VALUE}};
        for (int[] w : wrong) {
            Check.no("depth" + java.util.Arrays.toString(w), wave.depth(w[0], w[1], w[2], w[3], w[4]));
        }
        Check.due("wrong depths change nothing", wave.travel(0, 0, 5, 0), 35);
        Check.yes("deepest", wave.depth(0, 0, 5, 4, 8000));
        Check.due("deepest", wave.travel(0, 0, 5, 0), 15);
        Check.yes("one square", wave.depth(5, 4, 5, 4, 0));
        Check.due("one square is land", wave.travel(5, 4, 0, 0), -1);
        Check.due("the one beside isn't", wave.travel(4, 4, 0, 4), 12);
        Check.yes("all land", wave.depth(0, 0, 5, 4, 0));
        Check.due("all land", wave.travel(0, 0, 0, 0), -1);
    }

    private static void depthsUnderThings() {
        GreatWave wave = new GreatWave(6, 6);
        wave.shore(2, 2);
        wave.buoy(4, 4);
        Check.no("land under a shore", wave.depth(0, 0, 2, 2, 0));
        Check.due("nothing done", wave.travel(0, 0, 1, 0), 7);
        Check.no("land under a buoy", wave.depth(4, 4, 5, 5, 0));
        Check.due("nothing done", wave.travel(5, 5, 5, 4), 7);
        Check.yes("land beside them", wave.depth(0, 0, 1, 5, 0));
        Check.yes("land between them", wave.depth(3, 0, 3, 5, 0));
        Check.yes("land right and above", wave.depth(4, 0, 5, 3, 0));
        Check.yes("other depth under them", wave.depth(0, 0, 5, 5, 1));
        Check.yes("a shake", wave.shake(0, 5, 50, 0));
        Check.no("land under the shake", wave.depth(0, 5, 0, 5, 0));
        Check.yes("the latest shake", wave.shake(1, 5, 50, 0));
        Check.yes("land under the former shake", wave.depth(0, 5, 0, 5, 0));
        Check.no("land under the latest", wave.depth(1, 5, 1, 5, 0));
        Check.yes("undone", wave.undo());
        Check.yes("land under an undone shake", wave.depth(1, 5, 1, 5, 0));
        Check.due("that is land", wave.travel(1, 5, 2, 5), -1);
    }

    private static void shores() {
        GreatWave wave = new GreatWave(7, 4);
        wave.depth(0, 0, 0, 0, 0);
        Check.due("on land", wave.shore(0, 0), -1);
        int[][] outside = {{-1, 0}, {0, -1}, {7, 0}, {0, 4}, {Integer.MAX_VALUE, 1}, {1, Integer.MIN_VALUE}};
        for (int[] o : outside) {
            Check.due("outside", wave.shore(o[0], o[1]), -1);
        }
        Check.due("none yet", wave.count(1), 0);
        for (int i = 0; i < 8; i++) {
            Check.due("shore " + i, wave.shore(6, i / 2), i);
        }
        Check.due("a ninth", wave.shore(6, 0), -1);
        Check.due("count(1)", wave.count(1), 8);
        Check.due("buoys are others", wave.count(2), 0);
    }

    private static void buoys() {
        GreatWave wave = new GreatWave(4, 7);
        wave.depth(0, 0, 0, 0, 0);
        Check.due("on land", wave.buoy(0, 0), -1);
        int[][] outside = {{-1, 0}, {0, -1}, {4, 0}, {0, 7}, {Integer.MIN_VALUE, 1}, {1, Integer.MAX_VALUE}};
        for (int[] o : outside) {
            Check.due("outside", wave.buoy(o[0], o[1]), -1);
        }
        Check.due("none yet", wave.count(2), 0);
        for (int i = 0; i < 6; i++) {
            Check.due("buoy " + i, wave.buoy(i / 2, 6), i);
        }
        Check.due("a seventh", wave.buoy(3, 6), -1);
        Check.due("count(2)", wave.count(2), 6);
        Check.due("shores are others", wave.count(1), 0);
    }

    private static void travels() {
        GreatWave wave = new GreatWave(8, 4);
        Check.due("itself", wave.travel(3, 3, 3, 3), 0);
        Check.due("straight", wave.travel(0, 0, 7, 0), 49);
        Check.due("by corners", wave.travel(0, 0, 3, 3), 27);
        Check.due("both", wave.travel(0, 0, 5, 3), 41);
        int[][] outside = {{8, 0, 0, 0}, {0, 4, 0, 0}, {0, 0, 8, 0}, {0, 0, 0, 4}, {-1, 0, 0, 0}, {0, -1, 0, 0},
            {0, 0, -1, 0}, {0, 0, 0, -1}, {Integer.MIN_VALUE, 0, 0, 0}, {0, 0, 0, Integer.MAX_VALUE}};
        for (int[] o : outside) {
            Check.due("outside", wave.travel(o[0], o[1], o[2], o[3]), -1);
        }
        wave.depth(4, 0, 4, 3, 0);
        Check.due("land between", wave.travel(0, 0, 7, 0), -1);
        Check.due("to land", wave.travel(0, 0, 4, 0), -1);
        Check.due("from land", wave.travel(4, 0, 0, 0), -1);
        Check.due("land to itself", wave.travel(4, 0, 4, 0), -1);
        Check.due("on one side", wave.travel(5, 0, 7, 0), 14);
        wave.depth(0, 0, 3, 3, 0);
        wave.depth(0, 1, 0, 1, 1000);
        wave.depth(1, 0, 1, 0, 1000);
        Check.due("a corner between lands is open", wave.travel(0, 1, 1, 0), 9);
    }

    /** A deep way round is quicker than the shallow straight one. */
    private static void detours() {
        GreatWave wave = new GreatWave(20, 12);
        wave.depth(0, 0, 19, 11, 1);
        wave.depth(0, 11, 19, 11, 8000);
        wave.depth(0, 0, 0, 11, 8000);
        wave.depth(19, 0, 19, 11, 8000);
        // 11 down, 19 right and 11 up by 3, less two corners that save 2 each.
        Check.due("round", wave.travel(0, 0, 19, 0), 41 * 3 - 2 * 2);
        Check.due("and back", wave.travel(19, 0, 0, 0), 119);
        wave.depth(10, 0, 10, 11, 0);
        Check.due("cut off", wave.travel(0, 0, 19, 0), -1);
        GreatWave snake = new GreatWave(20, 12);
        snake.depth(0, 0, 19, 11, 1);
        for (int line = 1; line < 12; line += 2) {
            snake.depth(line % 4 == 1 ? 0 : 1, line, line % 4 == 1 ? 18 : 19, line, 0);
        }
        // Five lines of 17 or 18 sides, joined by two corners at each end that is open.
        Check.due("a long way", snake.travel(0, 0, 0, 10), 101 * (18 + 17 + 17 + 17 + 17 + 18) + 141 * 10);
    }
}
