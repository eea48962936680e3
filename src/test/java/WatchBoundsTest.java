/** The boundary cases of promises 10 and 16 to 19, a test for each sentence that names one. */
public final class WatchBoundsTest {
    public static void main(String[] args) {
        startsAreAsTold();
        shakeSizesAndDoubts();
        shakeAtOpenSquares();
        latestShakeHolds();
        shakeHasTheMinuteOfNow();
        earliestAndLatestAreCut();
        arrivalOfNone();
        heightBySize();
        heightWithoutAShake();
        toldOfNone();
        gaugesToFiveThousand();
        gaugeOfAtLeastWatch();
        lastIsTheGreater();
        undoWithoutAShake();
        undoneStates();
        minutesToFiveHundred();
        nowToFiveThousand();
        minutesOneByOneOrTogether();
        letGoAtLastAndHold();
        letGoComesFirst();
        warnedFromWarnOn();
        watchedFromWatchOn();
        leadToTheMinute();
        statesThatAreWarned();
        stateSinceTheMinuteBegan();
        newShakeOfStates();
        shoresWithoutAnArrivalStay();
        askingChangesNothing();
        Check.end();
    }

    /** A sea of 8 by 4 with a shore 49 minutes from (0, 0), and a law. */
    private static GreatWave wave(String law) {
        GreatWave wave = new GreatWave(8, 4);
        wave.shore(7, 0);
        Check.law(wave, law);
        return wave;
    }

    private static void told(String when, GreatWave wave, int state, int since) {
        Check.due(when + ": state", wave.told(0, 4), state);
        Check.due(when + ": since", wave.told(0, 6), since);
    }

    private static void pass(GreatWave wave, int minutes) {
        for (int left = minutes; left > 0; left -= 500) {
            wave.pass(Math.min(500, left));
        }
    }

    /** The other tests lean on what Twins says of its states. */
    private static void startsAreAsTold() {
        GreatWave busy = Twins.busy();
        int[][] shores = {{37, 34, 40, 120, 2, 60, 0, 1}, {32, 29, 35, 33, 1, 35, 0, 0}};
        for (int shore = 0; shore < 2; shore++) {
            for (int what = 0; what < 8; what++) {
                Check.due("busy: told(" + shore + ", " + what + ")", busy.told(shore, what), shores[shore][what]);
            }
        }
        Check.due("busy: messages wait", busy.sirenOf(0, 1), 2);
        Check.due("busy: fault", busy.fault(), 4);
        int[] counts = {60, 2, 2, 2, 2, 1, 44, 20, 30, 100, 200, 120, 4};
        int[] full = {5000, 8, 6, 4, 6, 0, 0, 300, 30, 100, 180, 120, 5};
        for (int what = 0; what < 13; what++) {
            Check.due("busy: count(" + what + ")", busy.count(what), counts[what]);
            Check.due("full: count(" + what + ")", Twins.full().count(what), full[what]);
        }
    }

    /** "SIZE 50 to 95, DOUBT 0 to 50 hundredths"; "false, doing nothing: not as told" */
    private static void shakeSizesAndDoubts() {
        for (int size : new int[] {50, 51, 94, 95}) {
            Check.yes("size " + size, Twins.busy().shake(1, 1, size, 10));
            Check.yes("first of size " + size, Twins.bare().shake(1, 1, size, 10));
        }
        for (int doubt : new int[] {0, 1, 49, 50}) {
            Check.yes("doubt " + doubt, Twins.busy().shake(1, 1, 80, doubt));
            Check.yes("first of doubt " + doubt, Twins.bare().shake(1, 1, 80, doubt));
        }
        for (int size : Twins.outside(50, 95)) {
            Twins.refuse("size " + size, Twins::busy, w -> w.shake(2, 2, size, 10));
            Twins.refuse("first of size " + size, Twins::bare, w -> w.shake(2, 2, size, 10));
        }
        for (int doubt : Twins.outside(0, 50)) {
            Twins.refuse("doubt " + doubt, Twins::busy, w -> w.shake(2, 2, 80, doubt));
            Twins.refuse("first of doubt " + doubt, Twins::bare, w -> w.shake(2, 2, 80, doubt));
        }
    }

    /** "A SHAKE: a square that isn't land" */
    private static void shakeAtOpenSquares() {
        int[][] corners = {{0, 0}, {6, 0}, {0, 4}, {6, 4}};
        for (int[] c : corners) {
            Check.yes("in a corner", Twins.busy().shake(c[0], c[1], 80, 10));
        }
        Twins.refuse("on land", Twins::busy, w -> w.shake(3, 0, 80, 10));
        for (int x : Twins.outside(0, 6)) {
            Twins.refuse("in column " + x, Twins::busy, w -> w.shake(x, 2, 80, 10));
        }
        for (int y : Twins.outside(0, 4)) {
            Twins.refuse("in line " + y, Twins::busy, w -> w.shake(2, y, 80, 10));
        }
        GreatWave letGo = wave("hold 0;");
        letGo.shake(7, 0, 80, 0);
        letGo.pass(5);
        told("let go", letGo, 3, 1);
        Check.no("a wrong one", letGo.shake(0, 0, 96, 0));
        told("let go stays behind a wrong one", letGo, 3, 1);
    }

    /** "the latest one holds" */
    private static void latestShakeHolds() {
        GreatWave wave = wave("");
        wave.shake(0, 0, 95, 50);
        wave.shake(6, 0, 61, 0);
        Check.due("arrival", wave.told(0, 0), 7);
        Check.due("latest", wave.told(0, 2), 7);
        Check.due("height", wave.told(0, 3), 10);
        Check.due("one shake", wave.count(5), 1);
        Check.yes("undone", wave.undo());
        Check.due("the former one is gone too", wave.told(0, 0), -1);
        Check.no("there is none", wave.undo());
    }

    /** "its MINUTE is NOW", from 0 to 5,000 */
    private static void shakeHasTheMinuteOfNow() {
        for (int now : new int[] {0, 1, 4999, 5000}) {
            GreatWave wave = wave("");
            pass(wave, now);
            wave.shake(0, 0, 80, 10);
            Check.due("arrival from " + now, wave.told(0, 0), now + 49);
            Check.due("latest from " + now, wave.told(0, 2), now + 53);
            Check.due("last from " + now, wave.told(0, 5), now + 53);
        }
    }

    /** "EARLIEST: ARRIVAL less DOUBT hundredths of TRAVEL (cut), LATEST: and them" */
    private static void earliestAndLatestAreCut() {
        for (int depth : new int[] {1, 4, 1000, 8000}) {
            for (int doubt = 0; doubt <= 50; doubt++) {
                GreatWave wave = wave("");
                wave.depth(0, 0, 7, 3, depth);
                wave.shore(2, 0);
                wave.pass(3);
                wave.shake(0, 0, 80, doubt);
                for (int shore = 0; shore < 2; shore++) {
                    int travel = wave.travel(0, 0, shore == 0 ? 7 : 2, 0);
                    int cut = 0;
                    while ((cut + 1) * 100 <= travel * doubt) {
                        cut++;
                    }
                    String name = "doubt " + doubt + " of " + travel;
                    Check.due(name + ": arrival", wave.told(shore, 0), 3 + travel);
                    Check.due(name + ": earliest", wave.told(shore, 1), 3 + travel - cut);
                    Check.due(name + ": latest", wave.told(shore, 2), 3 + travel + cut);
                }
            }
        }
    }

    /** "0 ARRIVAL (NONE), 1 EARLIEST, 2 LATEST (NONE) .. 5 LAST (NONE without an ARRIVAL)" */
    private static void arrivalOfNone() {
        GreatWave wave = wave("");
        wave.gauge(0, 5000);
        int[] comings = {0, 1, 2, 5};
        for (int what : comings) {
            Check.due("no shake: " + what, wave.told(0, what), -1);
        }
        wave.depth(3, 0, 3, 3, 0);
        wave.shake(0, 0, 80, 10);
        for (int what : comings) {
            Check.due("no travel: " + what, wave.told(0, what), -1);
        }
        wave.shore(0, 0);
        for (int what : comings) {
            Check.due("at the shake's square: " + what, wave.told(1, what), 0);
        }
        wave.undo();
        for (int what : comings) {
            Check.due("undone: " + what, wave.told(1, what), -1);
        }
    }

    /** "without WEIGHTS 10 for each of SIZE above 60 (0 at least)" */
    private static void heightBySize() {
        for (int size = 50; size <= 95; size++) {
            GreatWave wave = wave("");
            wave.shake(0, 0, size, 0);
            Check.due("size " + size, wave.told(0, 3), size <= 60 ? 0 : 10 * (size - 60));
        }
    }

    /** "without a SHAKE 0", also with WEIGHTS */
    private static void heightWithoutAShake() {
        GreatWave wave = Twins.busy();
        Check.due("by weights", wave.told(0, 3), 120);
        wave.undo();
        Check.due("undone", wave.told(0, 3), 0);
        Check.due("the weights are there", wave.weight(1), 2);
        wave.shake(1, 1, 80, 10);
        Check.due("by weights again", wave.told(0, 3), 120);
        Check.due("never a shake", wave("").told(0, 3), 0);
    }

    /** "NONE: none such." */
    private static void toldOfNone() {
        for (int what = -2; what <= 9; what++) {
            int asked = what;
            for (int shore : Twins.outside(0, 1)) {
                Twins.answer("told of shore " + shore + ": " + what, -1, Twins::busy, w -> w.told(shore, asked));
            }
            Check.due("told in an empty sea: " + what, Twins.bare().told(0, what), -1);
            Check.due("told of shore 8: " + what, Twins.full().told(8, what), -1);
        }
        for (int what : Twins.outside(0, 7)) {
            Twins.answer("told " + what, -1, Twins::busy, w -> w.told(0, what));
        }
        Check.due("told of the last shore", Twins.full().told(7, 4), 0);
    }

    /** "A GAUGE of a SHORE NOW (0 to 5,000): true; false: not as told." */
    private static void gaugesToFiveThousand() {
        for (int v : new int[] {0, 1, 4999, 5000}) {
            Check.yes("gauge " + v, Twins.busy().gauge(0, v));
        }
        for (int v : Twins.outside(0, 5000)) {
            Twins.refuse("gauge " + v, Twins::busy, w -> w.gauge(1, v));
        }
        for (int shore : Twins.outside(0, 1)) {
            Twins.refuse("gauge of shore " + shore, Twins::busy, w -> w.gauge(shore, 3000));
        }
        Twins.refuse("gauge of no shore", Twins::bare, w -> w.gauge(0, 3000));
        Check.yes("gauge of the last shore", Twins.full().gauge(7, 5000));
        Twins.refuse("gauge of shore 8", Twins::full, w -> w.gauge(8, 3000));
    }

    /** "the latest GAUGE of at least WATCH" */
    private static void gaugeOfAtLeastWatch() {
        int[][] cases = {{0, 0, 1}, {1, 0, 0}, {1, 1, 1}, {30, 29, 0}, {30, 30, 1}, {5000, 4999, 0}, {5000, 5000, 1}, {5001, 5000, 0}, {9999, 5000, 0}};
        for (int[] c : cases) {
            GreatWave wave = wave("watch " + c[0] + ";");
            wave.shake(0, 0, 50, 0);
            wave.pass(100);
            wave.gauge(0, c[1]);
            Check.due("a gauge of " + c[1] + " by watch " + c[0], wave.told(0, 5), c[2] == 1 ? 100 : 49);
            wave.pass(10);
            wave.gauge(0, c[1]);
            Check.due("a later one of " + c[1] + " by watch " + c[0], wave.told(0, 5), c[2] == 1 ? 110 : 49);
        }
    }

    /** "LAST: the greater of LATEST and the MINUTE of the latest GAUGE" */
    private static void lastIsTheGreater() {
        for (int minute = 50; minute <= 56; minute++) {
            GreatWave wave = wave("");
            wave.shore(7, 3);
            wave.shake(0, 0, 80, 10);
            wave.pass(minute);
            wave.gauge(0, 30);
            Check.due("a gauge at " + minute + ", latest is 53", wave.told(0, 5), Math.max(53, minute));
            Check.due("latest stays", wave.told(0, 2), 53);
            Check.due("the other shore's last", wave.told(1, 5), wave.told(1, 2));
        }
        GreatWave former = wave("");
        former.pass(10);
        former.gauge(0, 5000);
        former.shake(7, 0, 80, 0);
        Check.due("a gauge in the minute of the shake", former.told(0, 5), 10);
    }

    /** "UNDONE: true; false, doing nothing: there is no SHAKE." */
    private static void undoWithoutAShake() {
        Twins.refuse("never a shake", Twins::bare, w -> w.undo());
        Twins.refuse("never a shake", Twins::full, w -> w.undo());
        Twins.refuse("undone before", WatchBoundsTest::undoneBusy, w -> w.undo());
        Check.yes("there is one", Twins.busy().undo());
    }

    private static GreatWave undoneBusy() {
        GreatWave wave = Twins.busy();
        wave.undo();
        return wave;
    }

    /** "UNDONE: there is no SHAKE; STATES 1 and 2 are 3." */
    private static void undoneStates() {
        GreatWave wave = Twins.busy();
        wave.shore(0, 0);
        wave.undo();
        int[] states = {3, 3, 0};
        int[] since = {60, 60, -1};
        for (int shore = 0; shore < 3; shore++) {
            Check.due("undone: state of " + shore, wave.told(shore, 4), states[shore]);
            Check.due("undone: since of " + shore, wave.told(shore, 6), since[shore]);
        }
        Check.due("no shake", wave.count(5), 0);
        GreatWave letGo = wave("hold 0;");
        letGo.shake(7, 0, 80, 0);
        letGo.pass(9);
        letGo.undo();
        told("3 stays", letGo, 3, 1);
    }

    /** "n MINUTES (1 to 500) go by: NOW. NONE, doing nothing: another n" */
    private static void minutesToFiveHundred() {
        for (int n : new int[] {1, 2, 499, 500}) {
            GreatWave wave = Twins.busy();
            Check.due("pass " + n, wave.pass(n), 60 + n);
            Check.due("now", wave.count(0), 60 + n);
        }
        for (int n : Twins.outside(1, 500)) {
            Twins.answer("pass " + n, -1, Twins::busy, w -> w.pass(n));
            Twins.answer("first pass " + n, -1, Twins::bare, w -> w.pass(n));
        }
        Twins.answer("pass -1", -1, Twins::busy, w -> w.pass(-1));
        Twins.answer("pass -500", -1, Twins::busy, w -> w.pass(-500));
    }

    private static GreatWave late(int now) {
        GreatWave wave = Twins.busy();
        pass(wave, now - 60);
        return wave;
    }

    /** "NONE, doing nothing: .. above 5,000" */
    private static void nowToFiveThousand() {
        for (int now : new int[] {4500, 4501, 4750, 4998, 4999}) {
            GreatWave wave = late(now);
            Check.due("now", wave.count(0), now);
            Check.due("to 5,000 from " + now, wave.pass(5000 - now), 5000);
            if (now > 4500) {
                Twins.answer("above 5,000 from " + now, -1, () -> late(now), w -> w.pass(5001 - now));
                Twins.answer("500 from " + now, -1, () -> late(now), w -> w.pass(500));
            }
        }
        for (int n : new int[] {1, 2, 500, 501, 0, Integer.MAX_VALUE}) {
            Twins.answer("from 5,000: " + n, -1, Twins::full, w -> w.pass(n));
        }
    }

    /** "As a MINUTE goes by": n minutes at once are n times one minute. */
    private static void minutesOneByOneOrTogether() {
        GreatWave together = Twins.busy();
        together.pass(200);
        GreatWave single = Twins.busy();
        for (int i = 0; i < 200; i++) {
            single.pass(1);
        }
        for (int shore = 0; shore < 2; shore++) {
            for (int what = 0; what < 8; what++) {
                Check.due("told(" + shore + ", " + what + ")", single.told(shore, what), together.told(shore, what));
            }
            for (int what = 0; what < 6; what++) {
                Check.due("sirenOf(" + shore + ", " + what + ")", single.sirenOf(shore, what), together.sirenOf(shore, what));
            }
        }
        Check.due("taken", single.count(6), together.count(6));
    }

    /** "(a) STATE 1 or 2 and NOW is at least LAST and HOLD: 3" */
    private static void letGoAtLastAndHold() {
        int[] holds = {0, 1, 2, 119, 120, 121, 1000, 4900};
        for (int hold : holds) {
            for (int size : new int[] {65, 80}) {
                GreatWave wave = wave("hold " + hold + ";");
                wave.shake(0, 0, size, 10);
                pass(wave, 53 + hold);
                told("before " + (53 + hold), wave, size == 65 ? 1 : 2, 0);
                wave.pass(1);
                told("at " + (53 + hold), wave, 3, 53 + hold);
            }
        }
        GreatWave gauged = wave("hold 10;");
        gauged.shake(0, 0, 80, 10);
        gauged.pass(63);
        gauged.gauge(0, 30);
        gauged.pass(10);
        told("a gauge in the last minute", gauged, 2, 0);
        gauged.pass(1);
        told("held by the gauge", gauged, 3, 73);
        GreatWave longest = wave("hold 9999;");
        longest.shake(0, 0, 80, 10);
        pass(longest, 5000);
        told("the longest hold", longest, 2, 0);
    }

    /** "the first of: (a) .. (b) .. (c)": in one minute one of them alone. */
    private static void letGoComesFirst() {
        GreatWave wave = wave("hold 0; lead 0;");
        wave.shake(0, 0, 65, 0);
        wave.pass(50);
        told("watched", wave, 1, 49);
        Check.law(wave, "hold 0; lead 0; warn 10;");
        wave.pass(1);
        told("let go, though it could be warned", wave, 3, 50);
        wave.pass(1);
        told("let go stays", wave, 3, 50);
        GreatWave quiet = wave("hold 0; watch 9999; warn 9999;");
        quiet.shake(7, 0, 80, 0);
        quiet.pass(200);
        told("0 isn't let go", quiet, 0, -1);
        Check.law(quiet, "hold 0;");
        quiet.pass(1);
        told("0 is warned, however late", quiet, 2, 200);
        quiet.pass(1);
        told("and let go in the next minute", quiet, 3, 201);
    }

    /** "(b) HEIGHT is at least WARN" */
    private static void warnedFromWarnOn() {
        int[][] cases = {{200, 2}, {201, 1}, {199, 2}, {0, 2}, {9999, 1}};
        for (int[] c : cases) {
            GreatWave wave = wave("warn " + c[0] + ";");
            wave.shake(0, 0, 80, 0);
            wave.pass(1);
            told("a height of 200 by warn " + c[0], wave, c[1], 0);
        }
        GreatWave above = wave("watch 300; warn 200;");
        above.shake(0, 0, 80, 0);
        above.pass(1);
        told("warned below watch", above, 2, 0);
        GreatWave nought = wave("warn 0; watch 0;");
        nought.shake(0, 0, 50, 0);
        nought.pass(1);
        told("a height of 0 by warn 0", nought, 2, 0);
    }

    /** "(c) HEIGHT at least WATCH, that LEAD, STATE 0: 1" */
    private static void watchedFromWatchOn() {
        int[][] cases = {{200, 1}, {201, 0}, {199, 1}, {0, 1}, {9999, 0}};
        for (int[] c : cases) {
            GreatWave wave = wave("warn 9999; watch " + c[0] + ";");
            wave.shake(0, 0, 80, 0);
            wave.pass(2);
            told("a height of 200 by watch " + c[0], wave, c[1], c[1] == 1 ? 0 : -1);
        }
        GreatWave nought = wave("watch 0;");
        nought.shake(0, 0, 50, 0);
        nought.pass(1);
        told("a height of 0 by watch 0", nought, 1, 0);
    }

    /** "EARLIEST less NOW is at most LEAD" */
    private static void leadToTheMinute() {
        for (int size : new int[] {65, 80}) {
            int state = size == 65 ? 1 : 2;
            // EARLIEST is 45.
            for (int lead = 0; lead <= 44; lead += 11) {
                GreatWave wave = wave("lead " + lead + ";");
                wave.shake(0, 0, size, 10);
                wave.pass(45 - lead);
                told("lead " + lead + ", a minute too early", wave, 0, -1);
                wave.pass(1);
                told("lead " + lead, wave, state, 45 - lead);
            }
            GreatWave just = wave("lead 45;");
            just.shake(0, 0, size, 10);
            just.pass(1);
            told("lead 45", just, state, 0);
        }
    }

    /** "STATE is below 2: 2": from 0 and from 1, with one message; 2 and 3 stay. */
    private static void statesThatAreWarned() {
        GreatWave wave = wave("");
        wave.siren(0);
        wave.shake(0, 0, 65, 0);
        wave.pass(1);
        told("from 0 to 1", wave, 1, 0);
        Check.due("no message", wave.sirenOf(0, 2), 0);
        wave.shake(0, 0, 80, 0);
        wave.pass(1);
        told("from 1 to 2", wave, 2, 1);
        Check.due("a message", wave.sirenOf(0, 2), 1);
        wave.pass(100);
        told("2 stays", wave, 2, 1);
        Check.due("no other message", wave.sirenOf(0, 2), 1);
        wave.pass(300);
        told("3 stays", wave, 3, 1 + 49 + 120);
        Check.due("no other message", wave.sirenOf(0, 2), 1);
    }

    /** "6 the MINUTE from which STATE is what it is (NONE; as the MINUTE began)" */
    private static void stateSinceTheMinuteBegan() {
        GreatWave wave = wave("hold 1;");
        told("never changed", wave, 0, -1);
        wave.pass(17);
        told("never changed", wave, 0, -1);
        wave.shake(7, 0, 80, 0);
        told("not yet", wave, 0, -1);
        wave.pass(1);
        told("as the minute began", wave, 2, 17);
        wave.pass(1);
        told("as the minute began", wave, 3, 18);
        wave.pass(1);
        wave.shake(7, 0, 50, 0);
        told("by a shake NOW", wave, 0, 20);
        Check.due("a new shore", wave.shore(0, 0), 1);
        Check.due("a new shore's since", wave.told(1, 6), -1);
        GreatWave last = wave("");
        pass(last, 4999);
        last.shake(7, 0, 80, 0);
        last.pass(1);
        told("in the last minute", last, 2, 4999);
        last.undo();
        told("undone at 5,000", last, 3, 5000);
        last.shake(7, 0, 80, 0);
        told("shaken at 5,000", last, 0, 5000);
    }

    /** "A new SHAKE: STATE 3 is 0 again; the others stay." */
    private static void newShakeOfStates() {
        GreatWave wave = Twins.busy();
        wave.shore(0, 0);
        wave.shake(1, 1, 50, 0);
        int[] states = {2, 1, 0};
        int[] since = {0, 0, -1};
        for (int shore = 0; shore < 3; shore++) {
            Check.due("stays: state of " + shore, wave.told(shore, 4), states[shore]);
            Check.due("stays: since of " + shore, wave.told(shore, 6), since[shore]);
        }
        wave.undo();
        wave.pass(5);
        wave.shake(1, 1, 50, 0);
        int[] later = {65, 65, -1};
        for (int shore = 0; shore < 3; shore++) {
            Check.due("0 again: state of " + shore, wave.told(shore, 4), 0);
            Check.due("0 again: since of " + shore, wave.told(shore, 6), later[shore]);
        }
    }

    /** "for each SHORE with an ARRIVAL" */
    private static void shoresWithoutAnArrivalStay() {
        GreatWave wave = wave("hold 0; watch 0; warn 0; lead 9999;");
        wave.pass(10);
        told("no shake", wave, 0, -1);
        wave.depth(3, 0, 3, 3, 0);
        wave.shake(0, 0, 95, 0);
        wave.pass(10);
        told("no travel", wave, 0, -1);
        wave.depth(3, 3, 3, 3, 1);
        wave.pass(1);
        told("a travel", wave, 2, 20);
        wave.depth(3, 3, 3, 3, 0);
        pass(wave, 1000);
        told("cut off: isn't let go", wave, 2, 20);
        GreatWave none = new GreatWave(4, 4);
        none.shake(0, 0, 95, 0);
        Check.due("no shores at all", none.pass(500), 500);
    }

    private static long askAll(GreatWave wave) {
        for (int what = 0; what <= 12; what++) {
            wave.count(what);
            wave.told(what % 2, what % 8);
            wave.sirenOf(what % 2, what % 6);
            wave.tideAt(what % 2, what);
            wave.travel(what % 7, what % 5, 6, what % 4);
        }
        wave.weight(0);
        wave.rest();
        return wave.fault();
    }

    /** What is only asked for is as it was, and the minutes of another start don't stay. */
    private static void askingChangesNothing() {
        Twins.answer("asked in an empty sea", -1, Twins::bare, WatchBoundsTest::askAll);
        Twins.answer("asked in a busy sea", 4, Twins::busy, WatchBoundsTest::askAll);
        Twins.answer("asked in a full sea", -1, Twins::full, WatchBoundsTest::askAll);
    }
}
