/** The boundary cases of promises 6 to 9 and 11 to 15, a test for each sentence that names one. */
public final class SourceBoundsTest {
    public static void main(String[] args) {
        fourPieces();
        rowsOfOneToTwelve();
        rowsOfPiecesAndBuoysThatAreThere();
        rowsAreNoughtAtFirst();
        numbersInsideOfTheRow();
        numbersToFiveHundred();
        liftsToFiveHundred();
        liftsAreNoughtAtFirst();
        readsToFiveThousand();
        readsInTwelveMinutes();
        lostOnesAskNoNumber();
        tideHeightsAndPeriods();
        tideInTwelveMinutes();
        tideTurnsAtHalf();
        weightsFromNoughtToNine();
        weightsOfSeveralTheLeast();
        weightsOfPiecesThatMakeNothing();
        weightsOfNone();
        shortRowsCountNought();
        restOfGreatestNumbers();
        weightsFollowEveryChange();
        Check.end();
    }

    /** One buoy and one piece, whose only number is v. */
    private static GreatWave single(int v) {
        GreatWave wave = Twins.bare();
        wave.buoy(2, 2);
        wave.piece();
        wave.row(0, 0, 1);
        wave.makes(0, 0, 0, v);
        return wave;
    }

    private static void weighs(String what, GreatWave wave, long rest, int... weights) {
        for (int i = 0; i < weights.length; i++) {
            Check.due(what + ": weight(" + i + ")", wave.weight(i), weights[i]);
        }
        Check.due(what + ": rest()", wave.rest(), rest);
    }

    /** "A PIECE: its number. NONE: 4 are there." */
    private static void fourPieces() {
        GreatWave wave = Twins.bare();
        for (int i = 0; i < 4; i++) {
            Check.due("pieces before", wave.count(3), i);
            Check.due("piece " + i, wave.piece(), i);
        }
        Check.due("a fifth", wave.piece(), -1);
        Check.due("pieces", wave.count(3), 4);
        Twins.answer("a fifth", -1, Twins::full, w -> w.piece());
    }

    /** "False, doing nothing: not as told (n below 1 or above 12, too)." */
    private static void rowsOfOneToTwelve() {
        for (int n = 1; n <= 12; n++) {
            Check.yes("row of " + n, Twins.busy().row(0, 0, n));
        }
        for (int n : Twins.outside(1, 12)) {
            Twins.refuse("row of " + n, Twins::busy, w -> w.row(0, 0, n));
            Twins.refuse("new row of " + n, Twins::busy, w -> w.row(1, 1, n));
        }
    }

    /** "False, doing nothing: not as told": a PIECE or BUOY that isn't there. */
    private static void rowsOfPiecesAndBuoysThatAreThere() {
        Twins.refuse("row in an empty sea", Twins::bare, w -> w.row(0, 0, 1));
        for (int number : Twins.outside(0, 1)) {
            Twins.refuse("row of piece " + number, Twins::busy, w -> w.row(number, 0, 3));
            Twins.refuse("row at buoy " + number, Twins::busy, w -> w.row(0, number, 3));
        }
        Check.yes("row of the last of both", Twins.busy().row(1, 1, 3));
        GreatWave full = Twins.full();
        Check.yes("row of the last of all", full.row(3, 5, 12));
        Check.yes("its last number", full.makes(3, 5, 11, 1));
        Twins.refuse("row of piece 4", Twins::full, w -> w.row(4, 5, 12));
        Twins.refuse("row at buoy 6", Twins::full, w -> w.row(3, 6, 12));
    }

    /** "has n numbers (0 at first)" */
    private static void rowsAreNoughtAtFirst() {
        GreatWave wave = single(10);
        wave.read(0, 0, 40, true);
        weighs("a number", wave, 0, 4);
        wave.row(0, 0, 1);
        weighs("as long again", wave, 1600, 0);
        wave.makes(0, 0, 0, 10);
        wave.row(0, 0, 12);
        weighs("longer again", wave, 1600, 0);
        wave.makes(0, 0, 5, 10);
        wave.row(0, 0, 1);
        wave.row(0, 0, 12);
        wave.read(0, 0, 0, false);
        wave.read(0, 5, 40, true);
        weighs("shorter, then longer again", wave, 1600, 0);
    }

    /** "Number k of it: true; false, doing nothing: no row, outside of it" */
    private static void numbersInsideOfTheRow() {
        for (int n = 1; n <= 12; n++) {
            GreatWave wave = single(0);
            wave.row(0, 0, n);
            for (int k = -2; k <= 13; k++) {
                Check.due("number " + k + " of " + n, wave.makes(0, 0, k, 1) ? 1 : 0, k >= 0 && k < n ? 1 : 0);
            }
        }
        for (int k : Twins.outside(0, 2)) {
            Twins.refuse("number " + k + " of 3", Twins::busy, w -> w.makes(0, 0, k, 7));
        }
        Twins.refuse("number 12 of 3", Twins::busy, w -> w.makes(0, 0, 12, 7));
        Twins.refuse("no row at that buoy", Twins::busy, w -> w.makes(0, 1, 0, 7));
        Twins.refuse("no row of that piece", Twins::full, w -> w.makes(3, 0, 0, 7));
        Twins.refuse("nothing there", Twins::bare, w -> w.makes(0, 0, 0, 7));
        for (int number : Twins.outside(0, 1)) {
            Twins.refuse("makes of piece " + number, Twins::busy, w -> w.makes(number, 0, 0, 7));
            Twins.refuse("makes at buoy " + number, Twins::busy, w -> w.makes(0, number, 0, 7));
        }
    }

    /** "each -500 to 500" */
    private static void numbersToFiveHundred() {
        for (int v : new int[] {-500, -499, 499, 500}) {
            GreatWave wave = single(0);
            Check.yes("makes " + v, wave.makes(0, 0, 0, v));
            wave.read(0, 0, 3 * v, true);
            weighs("makes " + v, wave, 0, 3);
        }
        for (int v : Twins.outside(-500, 500)) {
            Twins.refuse("makes " + v, Twins::busy, w -> w.makes(0, 0, 0, v));
        }
    }

    /** "what the PIECES make there (told, 0 to 500 ..)"; "false: not as told" */
    private static void liftsToFiveHundred() {
        for (int v : new int[] {0, 1, 499, 500}) {
            GreatWave wave = Twins.busy();
            Check.yes("lifts " + v, wave.lifts(0, 0, v));
            // The weights are 1 and 2, and piece 1 lifts 40.
            Check.due("lifts " + v, wave.told(0, 3), v + 2 * 40);
        }
        for (int v : Twins.outside(0, 500)) {
            Twins.refuse("lifts " + v, Twins::busy, w -> w.lifts(0, 0, v));
        }
        for (int number : Twins.outside(0, 1)) {
            Twins.refuse("lifts of piece " + number, Twins::busy, w -> w.lifts(number, 0, 7));
            Twins.refuse("lifts at shore " + number, Twins::busy, w -> w.lifts(0, number, 7));
        }
        Twins.refuse("lifts of nothing", Twins::bare, w -> w.lifts(0, 0, 7));
        Check.yes("lifts of the last of all", Twins.full().lifts(3, 7, 500));
        Twins.refuse("lifts of piece 4", Twins::full, w -> w.lifts(4, 7, 7));
        Twins.refuse("lifts at shore 8", Twins::full, w -> w.lifts(3, 8, 7));
    }

    /** "(.. 0 at first)"; the greatest HEIGHT is of four pieces that weigh 9 and lift 500. */
    private static void liftsAreNoughtAtFirst() {
        GreatWave wave = Twins.bare();
        wave.shore(6, 0);
        wave.buoy(2, 2);
        for (int i = 0; i < 4; i++) {
            wave.piece();
            wave.row(i, 0, 1);
            wave.makes(i, 0, 0, 10);
        }
        wave.read(0, 0, 5000, true);
        wave.shake(0, 0, 95, 0);
        weighs("all at most", wave, 4640L * 4640, 9, 9, 9, 9);
        Check.due("0 at first", wave.told(0, 3), 0);
        for (int i = 0; i < 4; i++) {
            wave.lifts(i, 0, 500);
            Check.due("pieces to " + i, wave.told(0, 3), 4500 * (i + 1));
        }
    }

    /** "a number (-5,000 to 5,000)"; "false: not as told" */
    private static void readsToFiveThousand() {
        for (int v : new int[] {-5000, -4999, 0, 4999, 5000}) {
            GreatWave wave = single(0);
            Check.yes("read " + v, wave.read(0, 0, v, true));
            weighs("read " + v, wave, (long) v * v, 0);
        }
        for (int v : Twins.outside(-5000, 5000)) {
            Twins.refuse("read " + v, Twins::busy, w -> w.read(0, 0, v, true));
            Twins.refuse("read " + v + " of a lost minute", Twins::busy, w -> w.read(0, 1, v, true));
        }
        for (int buoy : Twins.outside(0, 1)) {
            Twins.refuse("read of buoy " + buoy, Twins::busy, w -> w.read(buoy, 0, 7, true));
            Twins.refuse("lost of buoy " + buoy, Twins::busy, w -> w.read(buoy, 0, 7, false));
        }
        Twins.refuse("read of no buoy", Twins::bare, w -> w.read(0, 0, 7, true));
        Check.yes("read of the last buoy", Twins.full().read(5, 11, 7, true));
        Twins.refuse("read of buoy 6", Twins::full, w -> w.read(6, 0, 7, true));
    }

    /** "READ of a BUOY at a minute (0 to 11)" */
    private static void readsInTwelveMinutes() {
        GreatWave wave = single(0);
        for (int minute = 0; minute <= 11; minute++) {
            Check.yes("minute " + minute, wave.read(0, minute, 1, true));
            weighs("to minute " + minute, wave, minute + 1, 0);
        }
        for (int minute : Twins.outside(0, 11)) {
            Twins.refuse("read at " + minute, Twins::busy, w -> w.read(0, minute, 7, true));
            Twins.refuse("lost at " + minute, Twins::busy, w -> w.read(0, minute, 7, false));
            Twins.refuse("read of buoy 1 at " + minute, Twins::busy, w -> w.read(1, minute, 7, true));
        }
    }

    /** "or lost (is false; v isn't asked then): true" */
    private static void lostOnesAskNoNumber() {
        for (int v : new int[] {Integer.MIN_VALUE, -5001, -5000, 0, 5000, 5001, Integer.MAX_VALUE}) {
            GreatWave wave = single(10);
            wave.read(0, 0, 40, true);
            wave.read(0, 1, 3, true);
            Check.yes("lost with " + v, wave.read(0, 0, v, false));
            weighs("lost with " + v, wave, 9, 0);
            Check.yes("lost again with " + v, wave.read(0, 0, v, false));
            weighs("lost again with " + v, wave, 9, 0);
        }
    }

    /** "TIDE of a BUOY: A (0 to 500) and P (2 to 200)"; "false: not as told" */
    private static void tideHeightsAndPeriods() {
        for (int a : new int[] {0, 1, 499, 500}) {
            GreatWave wave = Twins.busy();
            Check.yes("tide of height " + a, wave.tide(0, a, 10));
            Check.due("tide of height " + a, wave.tideAt(0, 0), -a);
        }
        for (int p : new int[] {2, 3, 199, 200}) {
            GreatWave wave = Twins.busy();
            Check.yes("tide of period " + p, wave.tide(0, 500, p));
            Check.due("tide of period " + p, wave.tideAt(0, 1), p == 2 ? 500 : p == 3 ? 166 : 2000 / p - 500);
        }
        for (int a : Twins.outside(0, 500)) {
            Twins.refuse("tide of height " + a, Twins::busy, w -> w.tide(0, a, 10));
            Twins.refuse("first tide of height " + a, Twins::busy, w -> w.tide(1, a, 10));
        }
        for (int p : Twins.outside(2, 200)) {
            Twins.refuse("tide of period " + p, Twins::busy, w -> w.tide(0, 8, p));
            Twins.refuse("first tide of period " + p, Twins::busy, w -> w.tide(1, 8, p));
        }
        Twins.refuse("tide of period 0", Twins::busy, w -> w.tide(0, 8, 0));
        for (int buoy : Twins.outside(0, 1)) {
            Twins.refuse("tide of buoy " + buoy, Twins::busy, w -> w.tide(buoy, 8, 10));
        }
        Twins.refuse("tide of no buoy", Twins::bare, w -> w.tide(0, 8, 10));
        Check.yes("tide of the last buoy", Twins.full().tide(5, 8, 10));
        Twins.refuse("tide of buoy 6", Twins::full, w -> w.tide(6, 8, 10));
    }

    /** "TIDE of a BUOY at a minute 0 to 11. -100000: none such." "without one 0" */
    private static void tideInTwelveMinutes() {
        for (int minute : Twins.outside(0, 11)) {
            Twins.answer("tide at " + minute, -100000, Twins::busy, w -> w.tideAt(0, minute));
            Twins.answer("no tide at " + minute, -100000, Twins::busy, w -> w.tideAt(1, minute));
        }
        for (int buoy : Twins.outside(0, 1)) {
            Twins.answer("tide of buoy " + buoy, -100000, Twins::busy, w -> w.tideAt(buoy, 0));
        }
        Twins.answer("tide of no buoy", -100000, Twins::bare, w -> w.tideAt(0, 0));
        Twins.answer("tide of buoy 6", -100000, Twins::full, w -> w.tideAt(6, 0));
        for (int minute = 0; minute <= 11; minute++) {
            Check.due("without one at " + minute, Twins.busy().tideAt(1, minute), 0);
        }
        Check.due("at 0", Twins.busy().tideAt(0, 0), -8);
        Check.due("at 11", Twins.busy().tideAt(0, 11), -5);
    }

    /** "4 A r by P less A, if 2 r is below P; else 3 A less 4 A r by P (all cut towards 0)" */
    private static void tideTurnsAtHalf() {
        for (int p = 2; p <= 200; p++) {
            GreatWave wave = Twins.busy();
            for (int a : new int[] {0, 1, 7, 499, 500}) {
                wave.tide(0, a, p);
                for (int minute = 0; minute <= 11; minute++) {
                    int r = minute;
                    while (r >= p) {
                        r -= p;
                    }
                    int slope = (4 * a * r - 4 * a * r % p) / p;
                    int want = r + r < p ? slope - a : 3 * a - slope;
                    Check.due("tide " + a + " by " + p + " at " + minute, wave.tideAt(0, minute), want);
                }
            }
        }
    }

    /** "WEIGHTS: whole numbers 0 to 9 of the PIECES by which the sum of squares .. is least" */
    private static void weightsFromNoughtToNine() {
        GreatWave wave = single(10);
        for (int v = -120; v <= 120; v++) {
            int least = 0;
            for (int weight = 1; weight <= 9; weight++) {
                if (Math.abs(v - 10 * weight) < Math.abs(v - 10 * least)) {
                    least = weight;
                }
            }
            wave = v % 40 == 0 ? single(10) : wave;
            wave.read(0, 0, v, true);
            weighs("read " + v, wave, (long) (v - 10 * least) * (v - 10 * least), least);
        }
    }

    /** "of several the least one of the first PIECE, then of the second, .." */
    private static void weightsOfSeveralTheLeast() {
        int[][] cases = {
            {0, 0, 0, 0, 0}, {10, 0, 0, 0, 1}, {90, 0, 0, 0, 9}, {100, 0, 0, 1, 9}, {180, 0, 0, 9, 9},
            {190, 0, 1, 9, 9}, {270, 0, 9, 9, 9}, {280, 1, 9, 9, 9}, {360, 9, 9, 9, 9}, {370, 9, 9, 9, 9}, {95, 0, 0, 0, 9},
            {105, 0, 0, 1, 9}, {275, 0, 9, 9, 9}, {276, 1, 9, 9, 9}};
        GreatWave wave = Twins.bare();
        wave.buoy(2, 2);
        for (int i = 0; i < 4; i++) {
            wave.piece();
            wave.row(i, 0, 1);
            wave.makes(i, 0, 0, 10);
        }
        for (int[] c : cases) {
            wave.read(0, 0, c[0], true);
            long left = c[0] - 10L * (c[1] + c[2] + c[3] + c[4]);
            weighs("all alike, read " + c[0], wave, left * left, c[1], c[2], c[3], c[4]);
        }
        for (int i = 0; i < 4; i++) {
            wave.makes(i, 0, 0, 0);
            Check.due("piece " + i + " makes nothing", wave.weight(i), 0);
        }
        weighs("nothing made at all", wave, 276L * 276, 0, 0, 0, 0);
    }

    /** The same, where some make nothing: these weigh 0, whichever of the four they are. */
    private static void weightsOfPiecesThatMakeNothing() {
        for (int making = 0; making < 16; making++) {
            GreatWave wave = Twins.bare();
            wave.buoy(2, 2);
            int[] weights = new int[4];
            for (int i = 0; i < 4; i++) {
                wave.piece();
                wave.row(i, 0, 4);
                if ((making >> i & 1) == 1) {
                    weights[i] = 9 - i;
                    wave.makes(i, 0, i, 10);
                }
            }
            for (int i = 0; i < 4; i++) {
                wave.read(0, i, 10 * weights[i], true);
            }
            weighs("those that make are " + making, wave, 0, weights);
        }
    }

    /** "None, if all is lost."; "WEIGHT of a PIECE. NONE: none such, no WEIGHTS."; "rest .. NONE: no WEIGHTS." */
    private static void weightsOfNone() {
        GreatWave wave = single(10);
        weighs("lost at first", wave, -1, -1);
        wave.read(0, 11, 0, true);
        weighs("a single minute", wave, 0, 0);
        wave.read(0, 11, 0, false);
        weighs("all lost", wave, -1, -1);
        wave.shore(6, 0);
        wave.lifts(0, 0, 100);
        wave.shake(0, 0, 61, 0);
        Check.due("height without weights", wave.told(0, 3), 10);
        wave.read(0, 11, 0, true);
        Check.due("height by a weight of 0", wave.told(0, 3), 0);
        for (int piece : Twins.outside(0, 1)) {
            Twins.answer("weight of piece " + piece, -1, Twins::busy, w -> w.weight(piece));
        }
        Twins.answer("weight of nothing", -1, Twins::bare, w -> w.weight(0));
        Twins.answer("rest of nothing", -1, Twins::bare, w -> w.rest());
        Twins.answer("weight with all lost", -1, Twins::full, w -> w.weight(3));
        Twins.answer("weight of piece 4", -1, Twins::full, w -> w.weight(4));
        Twins.answer("rest with all lost", -1, Twins::full, w -> w.rest());
    }

    /** "a row that isn't there or is too short counts 0" */
    private static void shortRowsCountNought() {
        for (int n = 1; n <= 12; n++) {
            GreatWave wave = Twins.bare();
            wave.buoy(2, 2);
            wave.buoy(3, 3);
            wave.piece();
            wave.row(0, 0, n);
            for (int minute = 0; minute < 12; minute++) {
                wave.makes(0, 0, minute, 10);
                wave.read(0, minute, 20, true);
            }
            weighs("a row of " + n, wave, (12 - n) * 400, 2);
            wave.read(1, 0, 30, true);
            weighs("a row of " + n + ", none at the other", wave, (12 - n) * 400 + 900, 2);
        }
    }

    /** The greatest sum of squares: 72 minutes of 5,500 and all pieces against them. */
    private static void restOfGreatestNumbers() {
        GreatWave wave = Twins.bare();
        for (int buoy = 0; buoy < 6; buoy++) {
            wave.buoy(buoy, 0);
            wave.tide(buoy, 500, 2);
            for (int minute = 0; minute < 12; minute++) {
                wave.read(buoy, minute, minute % 2 == 0 ? 5000 : -5000, true);
            }
        }
        weighs("no pieces", wave, 72L * 5500 * 5500);
        for (int piece = 0; piece < 4; piece++) {
            wave.piece();
            for (int buoy = 0; buoy < 6; buoy++) {
                wave.row(piece, buoy, 12);
                for (int minute = 0; minute < 12; minute++) {
                    wave.makes(piece, buoy, minute, minute % 2 == 0 ? -500 : 500);
                }
            }
        }
        weighs("all against it", wave, 72L * 5500 * 5500, 0, 0, 0, 0);
    }

    /** Each of piece, row, makes, read and tide shows at once in the weights that were asked for before. */
    private static void weightsFollowEveryChange() {
        GreatWave wave = single(10);
        wave.read(0, 0, 40, true);
        weighs("at first", wave, 0, 4);
        wave.makes(0, 0, 0, 20);
        weighs("makes", wave, 0, 2);
        wave.tide(0, 20, 10);
        weighs("tide", wave, 0, 3);
        wave.read(0, 0, 80, true);
        weighs("read", wave, 0, 5);
        wave.buoy(3, 3);
        weighs("a new buoy changes nothing", wave, 0, 5);
        Check.due("a new piece", wave.piece(), 1);
        weighs("a new piece weighs 0", wave, 0, 5, 0);
        wave.row(1, 0, 1);
        wave.makes(1, 0, 0, 20);
        weighs("it makes as much", wave, 0, 0, 5);
        wave.row(0, 0, 1);
        weighs("row", wave, 0, 0, 5);
        wave.row(1, 0, 1);
        weighs("row", wave, 10000, 0, 0);
    }
}
