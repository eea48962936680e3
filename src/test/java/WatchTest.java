/** Promises 10 and 16 to 19: shakes, what is told of shores, gauges, undoing, and minutes that go by. */
public final class WatchTest {
    public static void main(String[] args) {
        wrongShakes();
        arrivals();
        arrivalsFollowTheSea();
        heights();
        readsOutliveShakes();
        wrongTold();
        passes();
        leads();
        watchedThenWarned();
        holds();
        gauges();
        gaugesByLaterWatch();
        holdOfNought();
        newShakes();
        undone();
        unreached();
        lawsOfNought();
        Check.end();
    }

    /** A sea of 8 by 4 with a shore 49 minutes from (0, 0). */
    private static GreatWave wave() {
        GreatWave wave = new GreatWave(8, 4);
        wave.shore(7, 0);
        return wave;
    }

    private static void told(GreatWave wave, String when, int state, int since) {
        Check.due(when + ": state", wave.told(0, 4), state);
        Check.due(when + ": since", wave.told(0, 6), since);
    }

    private static void wrongShakes() {
        GreatWave wave = wave();
        wave.depth(1, 1, 1, 1, 0);
        int[][] wrong = {{0, 0, 49, 0}, {0, 0, 96, 0}, {0, 0, 50, -1}, {0, 0, 50, 51}, {1, 1, 50, 0}, {8, 0, 50, 0},
            {0, 4, 50, 0}, {-1, 0, 50, 0}, {0, -1, 50, 0}, {Integer.MAX_VALUE, 0, 50, 0}, {0, 0, Integer.MIN_VALUE, 0},
            {0, 0, 50, Integer.MAX_VALUE}, {0, Integer.MIN_VALUE, 50, 0}};
        for (int[] w : wrong) {
            Check.no("shake" + java.util.Arrays.toString(w), wave.shake(w[0], w[1], w[2], w[3]));
        }
        Check.due("no shake came of them", wave.count(5), 0);
        Check.no("nothing to undo", wave.undo());
        Check.yes("least", wave.shake(0, 0, 50, 0));
        Check.due("there is one", wave.count(5), 1);
        Check.no("a wrong one", wave.shake(1, 1, 95, 50));
        Check.due("the one that was holds", wave.told(0, 0), 49);
        Check.yes("most", wave.shake(7, 0, 95, 50));
        Check.due("the latest one holds", wave.told(0, 0), 0);
        Check.due("its size", wave.told(0, 3), 350);
    }

    private static void arrivals() {
        GreatWave wave = wave();
        for (int what = 0; what <= 2; what++) {
            Check.due("none yet: told(0, " + what + ")", wave.told(0, what), -1);
        }
        Check.due("no last yet", wave.told(0, 5), -1);
        wave.pass(13);
        int[][] cases = {{0, 49, 49}, {1, 49, 49}, {2, 49, 49}, {3, 48, 50}, {10, 45, 53}, {50, 25, 73}, {49, 25, 73}, {48, 26, 72}};
        for (int[] c : cases) {
            wave.shake(0, 0, 50, c[0]);
            Check.due("arrival", wave.told(0, 0), 13 + 49);
            Check.due("earliest by " + c[0], wave.told(0, 1), 13 + c[1]);
            Check.due("latest by " + c[0], wave.told(0, 2), 13 + c[2]);
            Check.due("last by " + c[0], wave.told(0, 5), 13 + c[2]);
        }
        wave.shore(0, 0);
        Check.due("at the shake's square", wave.told(1, 0), 13);
        wave.pass(100);
        Check.due("the minute of the shake stays", wave.told(0, 0), 62);
    }

    private static void arrivalsFollowTheSea() {
        GreatWave wave = wave();
        wave.shake(0, 0, 50, 10);
        Check.due("travel of others", wave.travel(7, 3, 7, 0), 21);
        Check.due("arrival", wave.told(0, 0), 49);
        wave.depth(0, 0, 7, 3, 8000);
        Check.due("deeper", wave.told(0, 0), 21);
        Check.due("deeper: earliest", wave.told(0, 1), 19);
        wave.depth(3, 0, 3, 3, 0);
        Check.due("cut off", wave.told(0, 0), -1);
        Check.due("cut off: earliest", wave.told(0, 1), -1);
        Check.due("cut off: latest", wave.told(0, 2), -1);
        Check.due("cut off: last", wave.told(0, 5), -1);
    }

    private static void heights() {
        GreatWave wave = wave();
        Check.due("without a shake", wave.told(0, 3), 0);
        int[][] cases = {{50, 0}, {59, 0}, {60, 0}, {61, 10}, {95, 350}};
        for (int[] c : cases) {
            wave.shake(0, 0, c[0], 0);
            Check.due("size " + c[0], wave.told(0, 3), c[1]);
        }
        wave.piece();
        wave.buoy(1, 1);
        wave.row(0, 0, 1);
        wave.makes(0, 0, 0, 10);
        wave.lifts(0, 0, 25);
        Check.due("all is lost", wave.told(0, 3), 350);
        wave.read(0, 0, 40, true);
        Check.due("by weights", wave.told(0, 3), 100);
        wave.read(0, 0, 0, true);
        Check.due("by weights of nought", wave.told(0, 3), 0);
        wave.read(0, 0, 0, false);
        Check.due("lost again", wave.told(0, 3), 350);
        wave.read(0, 0, 40, true);
        wave.undo();
        Check.due("without a shake", wave.told(0, 3), 0);
        Check.due("weights stay", wave.weight(0), 4);
    }

    private static void readsOutliveShakes() {
        GreatWave wave = wave();
        wave.piece();
        wave.buoy(1, 1);
        wave.row(0, 0, 1);
        wave.makes(0, 0, 0, 10);
        wave.lifts(0, 0, 25);
        Check.yes("read before a shake", wave.read(0, 0, 40, true));
        Check.due("weight", wave.weight(0), 4);
        wave.shake(0, 0, 95, 0);
        Check.due("weight", wave.weight(0), 4);
        Check.due("height", wave.told(0, 3), 100);
        wave.shake(1, 1, 95, 0);
        Check.due("height", wave.told(0, 3), 100);
    }

    private static void wrongTold() {
        GreatWave wave = wave();
        int[][] wrong = {{1, 4}, {-1, 4}, {0, 8}, {0, -1}, {Integer.MAX_VALUE, 0}, {0, Integer.MIN_VALUE}, {8, 0}};
        for (int[] w : wrong) {
            Check.due("told" + java.util.Arrays.toString(w), wave.told(w[0], w[1]), -1);
        }
        told(wave, "at first", 0, -1);
        Check.due("no drill", wave.told(0, 7), 0);
        wave.drill(0, true);
        Check.due("a drill", wave.told(0, 7), 1);
        wave.drill(0, false);
        Check.due("no drill", wave.told(0, 7), 0);
    }

    private static void passes() {
        GreatWave wave = wave();
        int[] wrong = {0, -1, 501, Integer.MAX_VALUE, Integer.MIN_VALUE};
        for (int n : wrong) {
            Check.due("pass(" + n + ")", wave.pass(n), -1);
        }
        Check.due("nothing went by", wave.count(0), 0);
        Check.due("pass(1)", wave.pass(1), 1);
        Check.due("pass(500)", wave.pass(500), 501);
        for (int i = 0; i < 8; i++) {
            wave.pass(500);
        }
        Check.due("count(0)", wave.count(0), 4501);
        Check.due("pass(500)", wave.pass(500), -1);
        Check.due("nothing went by", wave.count(0), 4501);
        Check.due("pass(499)", wave.pass(499), 5000);
        Check.due("pass(1)", wave.pass(1), -1);
        wave.shake(0, 0, 95, 50);
        Check.due("beyond the last minute", wave.told(0, 2), 5073);
    }

    private static void leads() {
        GreatWave wave = wave();
        Check.law(wave, "lead 10;");
        wave.shake(0, 0, 95, 10);
        wave.pass(35);
        told(wave, "11 minutes before", 0, -1);
        wave.pass(1);
        told(wave, "10 minutes before", 2, 35);
        GreatWave later = wave();
        Check.law(later, "lead 0; warn 340; hold 1000;");
        later.shake(0, 0, 93, 0);
        later.pass(49);
        told(later, "a minute before", 0, -1);
        later.pass(1);
        told(later, "watched", 1, 49);
        later.shake(0, 0, 94, 0);
        later.pass(60);
        told(later, "warned long behind", 2, 50 + 49);
    }

    private static void watchedThenWarned() {
        GreatWave wave = wave();
        wave.shake(0, 0, 62, 0);
        wave.pass(5);
        told(wave, "below watch", 0, -1);
        wave.shake(0, 0, 63, 0);
        wave.pass(2);
        told(wave, "watch", 1, 5);
        wave.shake(0, 0, 69, 0);
        wave.pass(2);
        told(wave, "below warn", 1, 5);
        wave.shake(0, 0, 70, 0);
        told(wave, "not before the minute goes by", 1, 5);
        wave.pass(3);
        told(wave, "warn", 2, 9);
        wave.shake(0, 0, 50, 0);
        wave.pass(100);
        told(wave, "never lower", 2, 9);
    }

    private static void holds() {
        GreatWave wave = wave();
        wave.shake(0, 0, 80, 10);
        wave.pass(53 + 120);
        told(wave, "held", 2, 0);
        wave.pass(1);
        told(wave, "let go", 3, 173);
        wave.pass(300);
        told(wave, "stays so", 3, 173);
        GreatWave watched = wave();
        watched.shake(0, 0, 65, 0);
        watched.pass(49 + 120);
        told(watched, "held", 1, 0);
        watched.pass(1);
        told(watched, "let go", 3, 169);
    }

    private static void gauges() {
        GreatWave wave = wave();
        Check.no("no such shore", wave.gauge(1, 0));
        Check.no("no such shore", wave.gauge(-1, 0));
        Check.no("no such shore", wave.gauge(Integer.MAX_VALUE, 0));
        Check.no("below nought", wave.gauge(0, -1));
        Check.no("too high", wave.gauge(0, 5001));
        Check.no("too high", wave.gauge(0, Integer.MAX_VALUE));
        Check.no("below nought", wave.gauge(0, Integer.MIN_VALUE));
        Check.yes("least", wave.gauge(0, 0));
        Check.yes("most", wave.gauge(0, 5000));
        Check.due("no last without an arrival", wave.told(0, 5), -1);
        wave.shake(0, 0, 80, 10);
        Check.due("latest is greater", wave.told(0, 5), 53);
        wave.pass(100);
        Check.no("wrong ones do nothing", wave.gauge(0, 5001));
        wave.gauge(0, 29);
        Check.due("below watch", wave.told(0, 5), 53);
        wave.gauge(0, 30);
        Check.due("watch", wave.told(0, 5), 100);
        wave.pass(50);
        wave.gauge(0, 29);
        Check.due("the latest of at least watch", wave.told(0, 5), 100);
        wave.pass(70);
        told(wave, "held", 2, 0);
        wave.gauge(0, 31);
        wave.pass(120);
        told(wave, "held on", 2, 0);
        wave.pass(1);
        told(wave, "let go", 3, 340);
        wave.gauge(0, 3000);
        wave.pass(5);
        told(wave, "a gauge behind that", 3, 340);
    }

    private static void gaugesByLaterWatch() {
        GreatWave wave = wave();
        wave.shake(0, 0, 80, 0);
        int[] heights = {60, 60, 20, 40, 10};
        for (int height : heights) {
            wave.pass(60);
            wave.gauge(0, height);
        }
        Check.due("watch 30", wave.told(0, 5), 240);
        Check.law(wave, "watch 10;");
        Check.due("watch 10", wave.told(0, 5), 300);
        Check.law(wave, "watch 11;");
        Check.due("watch 11", wave.told(0, 5), 240);
        Check.law(wave, "watch 41;");
        Check.due("watch 41", wave.told(0, 5), 120);
        Check.law(wave, "watch 61;");
        Check.due("watch 61", wave.told(0, 5), 49);
    }

    private static void holdOfNought() {
        GreatWave wave = wave();
        Check.law(wave, "hold 0;");
        wave.pass(10);
        wave.shake(7, 0, 80, 0);
        wave.pass(1);
        told(wave, "warned first", 2, 10);
        wave.pass(1);
        told(wave, "let go in the next minute", 3, 11);
    }

    private static void newShakes() {
        GreatWave wave = wave();
        wave.shore(7, 3);
        wave.shake(0, 0, 80, 0);
        wave.pass(300);
        told(wave, "let go", 3, 169);
        wave.shake(0, 0, 50, 0);
        told(wave, "none again", 0, 300);
        wave.pass(5);
        told(wave, "and stays so", 0, 300);
        wave.shake(0, 0, 65, 0);
        told(wave, "none stays", 0, 300);
        wave.pass(1);
        told(wave, "watched again", 1, 305);
        wave.shake(0, 0, 80, 0);
        told(wave, "watched stays", 1, 305);
        wave.pass(1);
        told(wave, "warned again", 2, 306);
        wave.shake(0, 0, 50, 0);
        told(wave, "warned stays", 2, 306);
        Check.due("the other too", wave.told(1, 4), 2);
        wave.pass(49 + 120);
        told(wave, "held by the new one", 2, 306);
        wave.pass(1);
        told(wave, "let go by the new one", 3, 307 + 169);
    }

    private static void undone() {
        GreatWave wave = new GreatWave(8, 4);
        wave.piece();
        wave.buoy(1, 1);
        wave.row(0, 0, 1);
        wave.makes(0, 0, 0, 1);
        wave.read(0, 0, 1, true);
        int[] lifts = {29, 99, 100};
        for (int i = 0; i < 3; i++) {
            wave.shore(7, i);
            wave.lifts(0, i, lifts[i]);
        }
        Check.no("no shake", wave.undo());
        wave.shake(0, 0, 80, 0);
        wave.pass(4);
        int[] before = {0, 1, 2};
        int[] behind = {0, 3, 3};
        int[] since = {-1, 4, 4};
        for (int i = 0; i < 3; i++) {
            Check.due("before: state of " + i, wave.told(i, 4), before[i]);
        }
        Check.yes("undone", wave.undo());
        Check.due("no shake", wave.count(5), 0);
        for (int i = 0; i < 3; i++) {
            Check.due("undone: state of " + i, wave.told(i, 4), behind[i]);
            Check.due("undone: since of " + i, wave.told(i, 6), since[i]);
            Check.due("undone: arrival of " + i, wave.told(i, 0), -1);
            Check.due("undone: height of " + i, wave.told(i, 3), 0);
        }
        wave.pass(10);
        Check.no("undone again", wave.undo());
        wave.shake(0, 0, 80, 0);
        Check.due("none again", wave.told(2, 4), 0);
        wave.undo();
        Check.due("none stays", wave.told(2, 4), 0);
        Check.due("from the shake", wave.told(2, 6), 14);
        wave.shake(0, 0, 80, 0);
        wave.pass(300);
        Check.due("let go", wave.told(2, 6), 14 + 53 + 120);
        wave.undo();
        Check.due("let go stays", wave.told(2, 4), 3);
        Check.due("from then on", wave.told(2, 6), 14 + 53 + 120);
    }

    private static void unreached() {
        GreatWave wave = wave();
        wave.shake(0, 0, 80, 0);
        wave.pass(1);
        wave.depth(3, 0, 3, 3, 0);
        wave.pass(400);
        told(wave, "no arrival, no change", 2, 0);
        Check.due("but a height", wave.told(0, 3), 200);
        wave.shore(5, 0);
        wave.pass(1);
        Check.due("none without an arrival", wave.told(1, 4), 0);
        wave.depth(3, 3, 3, 3, 9);
        wave.pass(1);
        told(wave, "let go late", 3, 402);
        Check.due("warned late", wave.told(1, 4), 2);
    }

    private static void lawsOfNought() {
        GreatWave wave = wave();
        Check.law(wave, "watch 0; warn 9999;");
        wave.shake(0, 0, 50, 0);
        wave.gauge(0, 0);
        wave.pass(1);
        told(wave, "watch 0", 1, 0);
        wave.pass(99);
        wave.gauge(0, 0);
        Check.due("a gauge of 0", wave.told(0, 5), 100);
        Check.law(wave, "warn 0;");
        wave.pass(1);
        told(wave, "warn 0", 2, 100);
        GreatWave far = wave();
        Check.law(far, "hold 9999; lead 9999; again 9999;");
        far.shake(0, 0, 95, 50);
        for (int i = 0; i < 10; i++) {
            far.pass(500);
        }
        told(far, "held for ever", 2, 0);
    }
}
