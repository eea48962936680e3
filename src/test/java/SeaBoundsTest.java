/** The boundary cases of promises 1 to 5, a test for each sentence of the document that names one. */
public final class SeaBoundsTest {
    public static void main(String[] args) {
        seaIsHeldToItsSizes();
        nothingIsThereAtFirst();
        everySquareIsAThousandDeepAtFirst();
        costOfEveryDepth();
        stepsAreCut();
        noughtIsLandAndOneIsNot();
        depthsFromNoughtToEightThousand();
        depthOfBothCorners();
        depthOutsideOfTheSea();
        noLandUnderThings();
        eightShores();
        sixBuoys();
        shoresAndBuoysAtOpenSquares();
        travelOfNone();
        travelToItself();
        travelDoesNotGoRoundTheEdges();
        Check.end();
    }

    private static boolean isSquare(GreatWave wave, int x, int y) {
        return wave.travel(x, y, x, y) == 0;
    }

    /** "A sea so wide and high (held to 4 to 20, 4 to 12)." */
    private static void seaIsHeldToItsSizes() {
        int[] sizes = {Integer.MIN_VALUE, -20, -1, 0, 1, 3, 4, 5, 11, 12, 13, 19, 20, 21, 260, Integer.MAX_VALUE};
        for (int wide : sizes) {
            for (int high : sizes) {
                GreatWave wave = new GreatWave(wide, high);
                int w = wide < 4 ? 4 : wide > 20 ? 20 : wide;
                int h = high < 4 ? 4 : high > 12 ? 12 : high;
                String name = "a sea " + wide + " by " + high;
                for (int x = -1; x <= 21; x++) {
                    Check.due(name + ": column " + x, isSquare(wave, x, 0) ? 1 : 0, x >= 0 && x < w ? 1 : 0);
                    Check.due(name + ": end of column " + x, isSquare(wave, x, h - 1) ? 1 : 0, x >= 0 && x < w ? 1 : 0);
                }
                for (int y = -1; y <= 13; y++) {
                    Check.due(name + ": line " + y, isSquare(wave, 0, y) ? 1 : 0, y >= 0 && y < h ? 1 : 0);
                    Check.due(name + ": end of line " + y, isSquare(wave, w - 1, y) ? 1 : 0, y >= 0 && y < h ? 1 : 0);
                }
            }
        }
    }

    /** A new object: "NOW is 0 at first", no SHAKE, no things, an empty tape, the numbers of the law. */
    private static void nothingIsThereAtFirst() {
        GreatWave wave = Twins.bare();
        int[] atFirst = {0, 0, 0, 0, 0, 0, 0, 0, 30, 100, 180, 120, 5};
        for (int what = 0; what < atFirst.length; what++) {
            Check.due("at first: count(" + what + ")", wave.count(what), atFirst[what]);
        }
        Check.due("at first: rest()", wave.rest(), -1);
        Check.due("at first: weight(0)", wave.weight(0), -1);
        Check.due("at first: told(0, 4)", wave.told(0, 4), -1);
        Check.due("at first: sirenOf(0, 0)", wave.sirenOf(0, 0), -1);
        Check.due("at first: tideAt(0, 0)", wave.tideAt(0, 0), -100000);
        Check.due("at first: fault()", wave.fault(), -1);
    }

    /** "each of a DEPTH 0 to 8,000 (1,000 at first)" */
    private static void everySquareIsAThousandDeepAtFirst() {
        for (int y = 0; y < 12; y++) {
            GreatWave wave = new GreatWave(20, 12);
            for (int x = 0; x < 19; x++) {
                Check.due("the side behind " + x + ", " + y, wave.travel(x, y, x + 1, y), 7);
                Check.due("the corner behind " + x + ", " + y, wave.travel(x, y, x + 1, y < 11 ? y + 1 : 10), 9);
            }
        }
    }

    /** "200 by (1 and the greatest whole number whose square is at most DEPTH), cut, and 1" */
    private static void costOfEveryDepth() {
        GreatWave wave = new GreatWave(4, 4);
        int root = 1;
        for (int depth = 1; depth <= 8000; depth++) {
            if (depth % 100 == 1) {
                wave = new GreatWave(4, 4);
            }
            if (depth == (root + 1) * (root + 1)) {
                root++;
            }
            int cost = 200 / (1 + root) + 1;
            Check.yes("depth " + depth, wave.depth(0, 0, 3, 3, depth));
            Check.due("a side at " + depth, wave.travel(0, 0, 1, 0), cost);
            Check.due("a corner at " + depth, wave.travel(1, 1, 0, 0), cost * 7 / 5);
        }
        Check.due("the last root", root, 89);
    }

    /** "both COSTS by 2, cut; by a corner: that times 7 by 5, cut" */
    private static void stepsAreCut() {
        // Depths whose costs are 101, 67, 51, 41, 7, 4 and 3.
        int[] depths = {1, 4, 9, 16, 1000, 4000, 8000};
        int[] costs = {101, 67, 51, 41, 7, 4, 3};
        for (int i = 0; i < depths.length; i++) {
            for (int j = 0; j < depths.length; j++) {
                GreatWave wave = new GreatWave(4, 4);
                wave.depth(0, 0, 3, 3, 0);
                wave.depth(1, 1, 1, 1, depths[i]);
                wave.depth(2, 1, 2, 1, depths[j]);
                wave.depth(0, 2, 0, 2, depths[j]);
                int side = (costs[i] + costs[j]) / 2;
                String name = "costs " + costs[i] + " and " + costs[j];
                Check.due(name + " by a side", wave.travel(1, 1, 2, 1), side);
                Check.due(name + " by a side, back", wave.travel(2, 1, 1, 1), side);
                Check.due(name + " by a corner", wave.travel(1, 1, 0, 2), side * 7 / 5);
                Check.due(name + " by a corner, back", wave.travel(0, 2, 1, 1), side * 7 / 5);
                Check.due(name + " by both", wave.travel(0, 2, 2, 1), side + side * 7 / 5);
            }
        }
    }

    /** "0 is land" */
    private static void noughtIsLandAndOneIsNot() {
        for (int depth = 0; depth <= 1; depth++) {
            GreatWave wave = Twins.bare();
            Check.yes("depth " + depth, wave.depth(2, 2, 2, 2, depth));
            Check.due("travel at " + depth, wave.travel(2, 2, 2, 2), depth == 0 ? -1 : 0);
            Check.due("shore at " + depth, wave.shore(2, 2), depth - 1);
            Check.due("buoy at " + depth, wave.buoy(2, 2), depth - 1);
            Check.due("shake at " + depth, wave.shake(2, 2, 50, 0) ? 1 : 0, depth);
        }
    }

    /** "DEPTH 0 to 8,000"; "false: not as told" */
    private static void depthsFromNoughtToEightThousand() {
        for (int depth : new int[] {0, 1, 7999, 8000}) {
            Check.yes("depth " + depth, Twins.busy().depth(0, 3, 1, 4, depth));
        }
        for (int depth : Twins.outside(0, 8000)) {
            Twins.refuse("depth " + depth, Twins::busy, w -> w.depth(0, 3, 1, 4, depth));
        }
    }

    /** "DEPTH of squares from one to another (both corners): true" */
    private static void depthOfBothCorners() {
        int[][] cases = {{0, 0, 0, 0}, {6, 4, 6, 4}, {0, 0, 6, 4}, {2, 1, 4, 3}, {0, 2, 6, 2}, {3, 0, 3, 4}, {5, 3, 6, 4}};
        for (int[] c : cases) {
            GreatWave wave = Twins.bare();
            String name = "land from " + c[0] + ", " + c[1] + " to " + c[2] + ", " + c[3];
            Check.yes(name, wave.depth(c[0], c[1], c[2], c[3], 0));
            for (int y = 0; y < 5; y++) {
                for (int x = 0; x < 7; x++) {
                    boolean land = x >= c[0] && x <= c[2] && y >= c[1] && y <= c[3];
                    Check.due(name + ": at " + x + ", " + y, wave.travel(x, y, x, y), land ? -1 : 0);
                }
            }
        }
        Twins.refuse("from right to left", Twins::busy, w -> w.depth(2, 3, 1, 3, 9));
        Twins.refuse("from below to above", Twins::busy, w -> w.depth(1, 4, 1, 3, 9));
    }

    /** "false: not as told": a corner that is no square. */
    private static void depthOutsideOfTheSea() {
        for (int x : Twins.outside(0, 6)) {
            Twins.refuse("from column " + x, Twins::busy, w -> w.depth(x, 3, 2, 4, 9));
            Twins.refuse("to column " + x, Twins::busy, w -> w.depth(0, 3, x, 4, 9));
            Twins.refuse("in column " + x, Twins::busy, w -> w.depth(x, 3, x, 3, 9));
        }
        for (int y : Twins.outside(0, 4)) {
            Twins.refuse("from line " + y, Twins::busy, w -> w.depth(0, y, 2, 4, 9));
            Twins.refuse("to line " + y, Twins::busy, w -> w.depth(0, 3, 2, y, 9));
            Twins.refuse("in line " + y, Twins::busy, w -> w.depth(0, y, 0, y, 9));
        }
    }

    private static GreatWave withThingAt(int kind, int x, int y) {
        GreatWave wave = Twins.bare();
        if (kind == 0) {
            wave.shore(x, y);
        } else if (kind == 1) {
            wave.buoy(x, y);
        } else {
            wave.shake(x, y, 80, 10);
        }
        return wave;
    }

    /** "false: .. a SHORE or BUOY would be land (or the SHAKE)" */
    private static void noLandUnderThings() {
        String[] kinds = {"a shore", "a buoy", "the shake"};
        for (int kind = 0; kind < 3; kind++) {
            int thing = kind;
            for (int square = 0; square < 35; square++) {
                int x = square % 7;
                int y = square / 7;
                String name = kinds[kind] + " at " + x + ", " + y;
                if (x >= 2 && x <= 4 && y >= 1 && y <= 3) {
                    Twins.refuse("land under " + name, () -> withThingAt(thing, x, y), w -> w.depth(2, 1, 4, 3, 0));
                } else {
                    Check.yes("land beside " + name, withThingAt(kind, x, y).depth(2, 1, 4, 3, 0));
                }
                Check.yes("a depth of 1 under " + name, withThingAt(kind, x, y).depth(0, 0, 6, 4, 1));
            }
        }
        GreatWave wave = withThingAt(2, 2, 2);
        wave.shake(3, 3, 80, 10);
        Check.yes("land where a shake was", wave.depth(2, 2, 2, 2, 0));
        Check.no("land where the latest one is", wave.depth(3, 3, 3, 3, 0));
        wave.undo();
        Check.yes("land where it was undone", wave.depth(3, 3, 3, 3, 0));
    }

    /** "A SHORE: its number. NONE, doing nothing: .. 8 are there." */
    private static void eightShores() {
        GreatWave wave = Twins.bare();
        for (int i = 0; i < 8; i++) {
            Check.due("shores before", wave.count(1), i);
            Check.due("shore " + i, wave.shore(i % 7, i % 5), i);
        }
        Check.due("a ninth", wave.shore(0, 0), -1);
        Check.due("shores", wave.count(1), 8);
        Twins.answer("a ninth", -1, Twins::full, w -> w.shore(0, 0));
        Twins.answer("a ninth where one is", -1, Twins::full, w -> w.shore(6, 0));
    }

    /** "A BUOY: its number. NONE, doing nothing: .. 6 are there." */
    private static void sixBuoys() {
        GreatWave wave = Twins.bare();
        for (int i = 0; i < 6; i++) {
            Check.due("buoys before", wave.count(2), i);
            Check.due("buoy " + i, wave.buoy(i % 7, i % 5), i);
        }
        Check.due("a seventh", wave.buoy(0, 0), -1);
        Check.due("buoys", wave.count(2), 6);
        Twins.answer("a seventh", -1, Twins::full, w -> w.buoy(0, 0));
        Twins.answer("a seventh where one is", -1, Twins::full, w -> w.buoy(5, 0));
    }

    /** "SHORES .. BUOYS ..: at squares that aren't land"; "NONE, doing nothing: not as told" */
    private static void shoresAndBuoysAtOpenSquares() {
        int[][] corners = {{0, 0}, {6, 0}, {0, 4}, {6, 4}};
        for (int[] c : corners) {
            Check.due("shore in a corner", Twins.busy().shore(c[0], c[1]), 2);
            Check.due("buoy in a corner", Twins.busy().buoy(c[0], c[1]), 2);
        }
        Twins.answer("shore on land", -1, Twins::busy, w -> w.shore(3, 0));
        Twins.answer("buoy on land", -1, Twins::busy, w -> w.buoy(3, 0));
        for (int x : Twins.outside(0, 6)) {
            Twins.answer("shore in column " + x, -1, Twins::busy, w -> w.shore(x, 2));
            Twins.answer("buoy in column " + x, -1, Twins::busy, w -> w.buoy(x, 2));
        }
        for (int y : Twins.outside(0, 4)) {
            Twins.answer("shore in line " + y, -1, Twins::busy, w -> w.shore(2, y));
            Twins.answer("buoy in line " + y, -1, Twins::busy, w -> w.buoy(2, y));
        }
    }

    /** "TRAVEL between two squares, in minutes. NONE: none, land, none such." */
    private static void travelOfNone() {
        Twins.answer("from land", -1, Twins::busy, w -> w.travel(3, 0, 2, 0));
        Twins.answer("to land", -1, Twins::busy, w -> w.travel(2, 0, 3, 0));
        Twins.answer("land to itself", -1, Twins::busy, w -> w.travel(3, 0, 3, 0));
        for (int x : Twins.outside(0, 6)) {
            Twins.answer("from column " + x, -1, Twins::busy, w -> w.travel(x, 2, 2, 2));
            Twins.answer("to column " + x, -1, Twins::busy, w -> w.travel(2, 2, x, 2));
            Twins.answer("in column " + x, -1, Twins::busy, w -> w.travel(x, 2, x, 2));
        }
        for (int y : Twins.outside(0, 4)) {
            Twins.answer("from line " + y, -1, Twins::busy, w -> w.travel(2, y, 2, 2));
            Twins.answer("to line " + y, -1, Twins::busy, w -> w.travel(2, 2, 2, y));
            Twins.answer("in line " + y, -1, Twins::busy, w -> w.travel(2, y, 2, y));
        }
        GreatWave wave = Twins.bare();
        wave.depth(3, 0, 3, 4, 0);
        Check.due("cut off", wave.travel(0, 0, 6, 4), -1);
        Check.due("cut off, back", wave.travel(6, 4, 0, 0), -1);
        wave.depth(3, 4, 3, 4, 1);
        Check.due("open by one square", wave.travel(2, 4, 4, 4), 2 * ((7 + 101) / 2));
    }

    /** "TRAVEL: the least sum from one to another": from a square to itself there is nothing to add. */
    private static void travelToItself() {
        GreatWave wave = Twins.bare();
        wave.depth(0, 0, 6, 4, 1);
        wave.depth(1, 1, 1, 1, 8000);
        Check.due("itself", wave.travel(0, 0, 0, 0), 0);
        Check.due("a deep one", wave.travel(1, 1, 1, 1), 0);
        wave.depth(0, 0, 6, 4, 0);
        wave.depth(2, 2, 2, 2, 5);
        Check.due("alone in land", wave.travel(2, 2, 2, 2), 0);
    }

    /** "one beside it": the last square of a line isn't beside the first one of the next. */
    private static void travelDoesNotGoRoundTheEdges() {
        int[][] apart = {{6, 1, 0, 2}, {6, 1, 0, 1}, {6, 1, 0, 3}, {2, 0, 2, 4}, {0, 0, 6, 4}, {6, 0, 0, 4}, {2, 0, 4, 0}, {2, 0, 2, 2}};
        for (int[] a : apart) {
            GreatWave wave = Twins.bare();
            wave.depth(0, 0, 6, 4, 0);
            wave.depth(a[0], a[1], a[0], a[1], 1000);
            wave.depth(a[2], a[3], a[2], a[3], 1000);
            String name = a[0] + ", " + a[1] + " and " + a[2] + ", " + a[3];
            Check.due(name, wave.travel(a[0], a[1], a[2], a[3]), -1);
            Check.due(name + ", back", wave.travel(a[2], a[3], a[0], a[1]), -1);
        }
    }
}
