/** Promises 6 to 9 and 11 to 15: pieces, rows, reads, tides, weights and what is left over. */
public final class SourceTest {
    public static void main(String[] args) {
        pieces();
        rows();
        makes();
        lifts();
        reads();
        tides();
        weights();
        ties();
        bounds();
        shortRows();
        tidesTakenOff();
        withoutPieces();
        greatest();
        Check.end();
    }

    private static GreatWave wave(int buoys, int pieces) {
        GreatWave wave = new GreatWave(6, 6);
        for (int i = 0; i < buoys; i++) {
            wave.buoy(i, 0);
        }
        for (int i = 0; i < pieces; i++) {
            wave.piece();
        }
        return wave;
    }

    private static void weighs(String what, GreatWave wave, long rest, int... weights) {
        for (int i = 0; i < weights.length; i++) {
            Check.due(what + ": weight(" + i + ")", wave.weight(i), weights[i]);
        }
        Check.due(what + ": rest()", wave.rest(), rest);
    }

    private static void pieces() {
        GreatWave wave = wave(0, 0);
        for (int i = 0; i < 4; i++) {
            Check.due("count(3)", wave.count(3), i);
            Check.due("piece " + i, wave.piece(), i);
        }
        Check.due("a fifth", wave.piece(), -1);
        Check.due("count(3)", wave.count(3), 4);
    }

    private static void rows() {
        GreatWave wave = wave(2, 2);
        int[][] wrong = {{2, 0, 3}, {-1, 0, 3}, {0, 2, 3}, {0, -1, 3}, {0, 0, 0}, {0, 0, 13}, {0, 0, -1},
            {0, 0, Integer.MAX_VALUE}, {0, 0, Integer.MIN_VALUE}, {Integer.MAX_VALUE, 0, 3}, {0, Integer.MIN_VALUE, 3}};
        for (int[] w : wrong) {
            Check.no("row" + java.util.Arrays.toString(w), wave.row(w[0], w[1], w[2]));
        }
        Check.no("no row came of them", wave.makes(0, 0, 0, 1));
        Check.yes("shortest", wave.row(0, 0, 1));
        Check.yes("longest", wave.row(1, 1, 12));
        Check.no("that of another buoy isn't there", wave.makes(1, 0, 0, 1));
        Check.no("that of another piece isn't there", wave.makes(0, 1, 0, 1));
        wave.read(0, 0, 10, true);
        Check.yes("makes", wave.makes(0, 0, 0, 5));
        weighs("row", wave, 0, 2, 0);
        Check.no("a wrong row", wave.row(0, 0, 13));
        weighs("leaves the row", wave, 0, 2, 0);
        Check.yes("row again", wave.row(0, 0, 12));
        weighs("is 0 at first", wave, 100, 0, 0);
    }

    private static void makes() {
        GreatWave wave = wave(2, 2);
        wave.row(0, 1, 3);
        int[][] wrong = {{0, 1, 3, 1}, {0, 1, -1, 1}, {0, 0, 0, 1}, {1, 1, 0, 1}, {0, 1, 0, 501}, {0, 1, 0, -501},
            {2, 1, 0, 1}, {-1, 1, 0, 1}, {0, 2, 0, 1}, {0, -1, 0, 1}, {0, 1, Integer.MAX_VALUE, 1},
            {0, 1, Integer.MIN_VALUE, 1}, {0, 1, 0, Integer.MIN_VALUE}, {Integer.MIN_VALUE, 1, 0, 1}};
        for (int[] w : wrong) {
            Check.no("makes" + java.util.Arrays.toString(w), wave.makes(w[0], w[1], w[2], w[3]));
        }
        wave.read(1, 0, 1000, true);
        weighs("wrong ones do nothing", wave, 1000000, 0, 0);
        Check.yes("most", wave.makes(0, 1, 0, 500));
        weighs("most", wave, 0, 2, 0);
        wave.read(1, 2, -1500, true);
        Check.yes("least", wave.makes(0, 1, 2, -500));
        weighs("least", wave, 250000, 2, 0);
        Check.yes("another in its place", wave.makes(0, 1, 0, 100));
        weighs("another in its place", wave, 700L * 700, 3, 0);
    }

    private static void lifts() {
        GreatWave wave = wave(1, 2);
        wave.shore(5, 5);
        wave.shore(4, 5);
        wave.row(0, 0, 1);
        wave.row(1, 0, 2);
        wave.makes(0, 0, 0, 10);
        wave.makes(1, 0, 1, 7);
        wave.read(0, 0, 90, true);
        wave.read(0, 1, 14, true);
        wave.shake(0, 5, 80, 0);
        Check.due("0 at first", wave.told(0, 3), 0);
        int[][] wrong = {{0, 0, -1}, {0, 0, 501}, {2, 0, 1}, {-1, 0, 1}, {0, 2, 1}, {0, -1, 1},
            {0, 0, Integer.MIN_VALUE}, {0, 0, Integer.MAX_VALUE}, {0, Integer.MAX_VALUE, 1}, {Integer.MAX_VALUE, 0, 1}};
        for (int[] w : wrong) {
            Check.no("lifts" + java.util.Arrays.toString(w), wave.lifts(w[0], w[1], w[2]));
        }
        Check.due("wrong ones do nothing", wave.told(0, 3), 0);
        Check.yes("most", wave.lifts(0, 0, 500));
        Check.due("most", wave.told(0, 3), 4500);
        Check.yes("of another piece", wave.lifts(1, 0, 3));
        Check.due("added", wave.told(0, 3), 4506);
        Check.due("at the other shore", wave.told(1, 3), 0);
        Check.yes("there", wave.lifts(1, 1, 11));
        Check.due("there", wave.told(1, 3), 22);
        Check.yes("another in its place", wave.lifts(0, 0, 0));
        Check.due("another in its place", wave.told(0, 3), 6);
    }

    private static void reads() {
        GreatWave wave = wave(2, 1);
        weighs("all is lost at first", wave, -1, -1);
        int[][] wrong = {{2, 0, 1}, {-1, 0, 1}, {0, 12, 1}, {0, -1, 1}, {0, 0, 5001}, {0, 0, -5001},
            {0, 0, Integer.MIN_VALUE}, {0, Integer.MIN_VALUE, 1}, {Integer.MAX_VALUE, 0, 1}, {0, Integer.MAX_VALUE, 1}};
        for (int[] w : wrong) {
            Check.no("read" + java.util.Arrays.toString(w), wave.read(w[0], w[1], w[2], true));
        }
        weighs("wrong ones do nothing", wave, -1, -1);
        Check.yes("most", wave.read(0, 0, 5000, true));
        weighs("most", wave, 25000000, 0);
        Check.yes("least", wave.read(1, 11, -5000, true));
        weighs("least", wave, 50000000, 0);
        Check.no("too much leaves what is there", wave.read(1, 11, -5001, true));
        weighs("too much leaves what is there", wave, 50000000, 0);
        Check.yes("lost, whatever v", wave.read(0, 0, Integer.MAX_VALUE, false));
        weighs("lost", wave, 25000000, 0);
        Check.yes("lost again", wave.read(0, 0, 0, false));
        Check.no("lost at no minute", wave.read(0, 12, 0, false));
        Check.no("lost at no buoy", wave.read(2, 0, 0, false));
        Check.yes("all lost", wave.read(1, 11, -5000, false));
        weighs("all lost", wave, -1, -1);
        Check.yes("a 0 is a number", wave.read(0, 3, 0, true));
        weighs("a 0 is a number", wave, 0, 0);
    }

    private static void tides() {
        GreatWave wave = wave(2, 0);
        Check.due("without one", wave.tideAt(0, 0), 0);
        int[][] wrong = {{2, 1, 2}, {-1, 1, 2}, {0, -1, 2}, {0, 501, 2}, {0, 1, 1}, {0, 1, 201}, {0, 1, 0},
            {0, 1, -2}, {0, Integer.MAX_VALUE, 2}, {0, 1, Integer.MIN_VALUE}, {Integer.MIN_VALUE, 1, 2}};
        for (int[] w : wrong) {
            Check.no("tide" + java.util.Arrays.toString(w), wave.tide(w[0], w[1], w[2]));
        }
        int[][] none = {{2, 0}, {-1, 0}, {0, 12}, {0, -1}, {Integer.MAX_VALUE, 0}, {0, Integer.MIN_VALUE}};
        for (int[] w : none) {
            Check.due("tideAt" + java.util.Arrays.toString(w), wave.tideAt(w[0], w[1]), -100000);
        }
        Check.due("wrong ones do nothing", wave.tideAt(0, 1), 0);
        Check.yes("tide", wave.tide(0, 500, 2));
        for (int m = 0; m < 12; m++) {
            Check.due("500 by 2 at " + m, wave.tideAt(0, m), m % 2 == 0 ? -500 : 500);
        }
        Check.due("the other has none", wave.tideAt(1, 1), 0);
        Check.yes("tide", wave.tide(1, 10, 7));
        int[] seven = {-10, -5, 1, 7, 8, 2, -4, -10, -5, 1, 7, 8};
        for (int m = 0; m < 12; m++) {
            Check.due("10 by 7 at " + m, wave.tideAt(1, m), seven[m]);
        }
        Check.yes("tide", wave.tide(1, 500, 200));
        Check.due("500 by 200 at 11", wave.tideAt(1, 11), -390);
        Check.yes("tide", wave.tide(1, 3, 8));
        Check.due("half way is the top", wave.tideAt(1, 4), 3);
        Check.yes("tide of nought", wave.tide(1, 0, 8));
        Check.due("tide of nought", wave.tideAt(1, 4), 0);
    }

    private static void weights() {
        GreatWave wave = wave(2, 3);
        Check.due("no such piece", wave.weight(3), -1);
        int[][] made = {{0, 0, 10, 20}, {1, 0, 0, 7}, {0, 1, -5, 3}, {2, 1, 40, -9}};
        for (int[] m : made) {
            wave.row(m[0], m[1], 2);
            wave.makes(m[0], m[1], 0, m[2]);
            wave.makes(m[0], m[1], 1, m[3]);
        }
        wave.read(0, 0, 30, true);
        wave.read(0, 1, 60 + 28, true);
        wave.read(1, 0, -15 + 80, true);
        wave.read(1, 1, 9 - 18, true);
        weighs("just so", wave, 0, 3, 4, 2);
        Check.due("no such piece", wave.weight(3), -1);
        Check.due("no such piece", wave.weight(-1), -1);
        Check.due("no such piece", wave.weight(Integer.MAX_VALUE), -1);
        wave.read(1, 0, 70, true);
        weighs("with a rest", wave, 25, 3, 4, 2);
        Check.due("a new piece", wave.piece(), 3);
        Check.due("weighs nothing", wave.weight(3), 0);
        wave.read(1, 0, 0, false);
        wave.read(1, 1, 0, false);
        weighs("one that isn't asked weighs 0", wave, 0, 3, 4, 0, 0);
        wave.read(0, 1, 0, false);
        weighs("of several the least", wave, 0, 3, 0, 0, 0);
    }

    private static void ties() {
        GreatWave wave = wave(1, 4);
        for (int i = 0; i < 4; i++) {
            wave.row(i, 0, 1);
            wave.makes(i, 0, 0, 10);
        }
        wave.read(0, 0, 30, true);
        weighs("the first is least, then the second", wave, 0, 0, 0, 0, 3);
        wave.read(0, 0, 130, true);
        weighs("what the last can't", wave, 0, 0, 0, 4, 9);
        wave.read(0, 0, 135, true);
        weighs("between two", wave, 25, 0, 0, 4, 9);
        wave.read(0, 0, 5, true);
        weighs("between nought and one", wave, 25, 0, 0, 0, 0);
        wave.makes(3, 0, 0, 20);
        wave.read(0, 0, 50, true);
        weighs("a rest of nought is less than the first's least", wave, 0, 0, 0, 1, 2);
        wave.read(0, 0, 1000, true);
        weighs("all at most", wave, 550L * 550, 9, 9, 9, 9);
    }

    private static void bounds() {
        GreatWave wave = wave(1, 1);
        wave.row(0, 0, 1);
        wave.makes(0, 0, 0, 10);
        int[][] cases = {{-50, 0}, {4, 0}, {5, 0}, {6, 1}, {15, 1}, {16, 2}, {84, 8}, {85, 8}, {86, 9}, {90, 9}, {95, 9}, {5000, 9}};
        for (int[] c : cases) {
            wave.read(0, 0, c[0], true);
            long rest = c[0] - 10L * c[1];
            weighs("read " + c[0], wave, rest * rest, c[1]);
        }
        wave.makes(0, 0, 0, -10);
        wave.read(0, 0, -26, true);
        weighs("below nought by below nought", wave, 16, 3);
    }

    private static void shortRows() {
        GreatWave wave = wave(1, 2);
        wave.row(0, 0, 3);
        for (int k = 0; k < 3; k++) {
            wave.makes(0, 0, k, 10);
        }
        for (int m = 0; m < 12; m++) {
            wave.read(0, m, 20, true);
        }
        weighs("too short counts 0", wave, 9 * 400, 2, 0);
        wave.row(0, 0, 2);
        wave.makes(0, 0, 0, 10);
        wave.makes(0, 0, 1, 10);
        weighs("shorter", wave, 10 * 400, 2, 0);
        wave.row(0, 0, 3);
        wave.makes(0, 0, 0, 20);
        weighs("what was there is gone", wave, 11 * 400, 1, 0);
    }

    private static void tidesTakenOff() {
        GreatWave wave = wave(2, 1);
        wave.row(0, 0, 12);
        wave.row(0, 1, 12);
        wave.tide(0, 10, 7);
        for (int m = 0; m < 12; m++) {
            wave.makes(0, 0, m, m - 5);
            wave.read(0, m, wave.tideAt(0, m) + 4 * (m - 5), true);
        }
        weighs("tide taken off", wave, 0, 4);
        wave.tide(0, 0, 7);
        long rest = 0;
        int[] seven = {-10, -5, 1, 7, 8, 2, -4, -10, -5, 1, 7, 8};
        for (int tide : seven) {
            rest += tide * tide;
        }
        // Times m - 5 the tide sums up to 93, m - 5 times itself to 146: one more leaves less.
        rest += 146 - 2 * 93;
        weighs("another tide", wave, rest, 5);
        wave.read(1, 3, 0, true);
        wave.tide(1, 500, 2);
        weighs("tide of another buoy", wave, rest + 250000, 5);
    }

    private static void withoutPieces() {
        GreatWave wave = wave(1, 0);
        Check.due("rest", wave.rest(), -1);
        wave.read(0, 0, 12, true);
        Check.due("rest", wave.rest(), 144);
        Check.due("weight(0)", wave.weight(0), -1);
        wave.shore(5, 5);
        wave.shake(0, 0, 95, 0);
        Check.due("no pieces, no height", wave.told(0, 3), 0);
        wave.piece();
        Check.due("weight(0)", wave.weight(0), 0);
    }

    /** The greatest sums that the document lets be. */
    private static void greatest() {
        GreatWave wave = wave(6, 4);
        for (int b = 0; b < 6; b++) {
            wave.tide(b, 500, 2);
            for (int m = 0; m < 12; m++) {
                wave.read(b, m, m % 2 == 0 ? 5000 : -5000, true);
            }
        }
        weighs("greatest", wave, 72L * 5500 * 5500, 0, 0, 0, 0);
        for (int p = 0; p < 4; p++) {
            for (int b = 0; b < 6; b++) {
                wave.row(p, b, 12);
                for (int m = 0; p == 3 && m < 12; m++) {
                    wave.makes(p, b, m, m % 2 == 0 ? 500 : -500);
                }
            }
        }
        weighs("taken off by one", wave, 72L * 1000 * 1000, 0, 0, 0, 9);
    }
}
