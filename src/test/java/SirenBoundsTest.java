/** The boundary cases of promises 20 to 23, a test for each sentence that names one. */
public final class SirenBoundsTest {
    public static void main(String[] args) {
        sixSirens();
        sirensOfShoresThatAreThere();
        drillsThatAreSo();
        drillsOfShoresThatAreThere();
        chancesToNineHundredNinetyNine();
        thirtyChances();
        chancesBelowTwoHundredFifty();
        withoutChances();
        chancesRoundAndRound();
        sirenOfNone();
        againToTheMinute();
        sentBehindStates();
        sirensByNumbersMessagesAsTheyCame();
        soundsTheFirstTime();
        drillsChangeNoState();
        messagesForSirensThatAreThere();
        Check.end();
    }

    /** A sea of 7 by 5 with two shores, the sirens of these, and a law. */
    private static GreatWave wave(String law, int... sirenShores) {
        GreatWave wave = Twins.bare();
        wave.shore(6, 0);
        wave.shore(6, 4);
        for (int shore : sirenShores) {
            wave.siren(shore);
        }
        Check.law(wave, law);
        return wave;
    }

    private static void chances(GreatWave wave, int... numbers) {
        for (int number : numbers) {
            wave.chance(number);
        }
    }

    /** Waiting, sendings, heard, sounded in earnest and in drills. */
    private static void told(String when, GreatWave wave, int siren, int... want) {
        for (int i = 0; i < want.length; i++) {
            Check.due(when + ": sirenOf(" + siren + ", " + (i + 1) + ")", wave.sirenOf(siren, i + 1), want[i]);
        }
    }

    /** "A SIREN of a SHORE: its number. NONE, doing nothing: .. 6 are there." */
    private static void sixSirens() {
        GreatWave wave = wave("");
        for (int i = 0; i < 6; i++) {
            Check.due("sirens before", wave.count(4), i);
            Check.due("siren " + i, wave.siren(i / 3), i);
            Check.due("its shore", wave.sirenOf(i, 0), i / 3);
        }
        Check.due("a seventh", wave.siren(0), -1);
        Check.due("sirens", wave.count(4), 6);
        Twins.answer("a seventh", -1, Twins::full, w -> w.siren(0));
        Twins.answer("a seventh of the last shore", -1, Twins::full, w -> w.siren(7));
    }

    /** "NONE, doing nothing: no such SHORE" */
    private static void sirensOfShoresThatAreThere() {
        Check.due("of the last shore", Twins.busy().siren(1), 2);
        for (int shore : Twins.outside(0, 1)) {
            Twins.answer("siren of shore " + shore, -1, Twins::busy, w -> w.siren(shore));
        }
        Twins.answer("siren of no shore", -1, Twins::bare, w -> w.siren(0));
    }

    /** "A DRILL of a SHORE begins or ends: true; false, doing nothing: .. it's so." */
    private static void drillsThatAreSo() {
        Twins.refuse("on again", Twins::busy, w -> w.drill(0, true));
        Twins.refuse("off at first", Twins::busy, w -> w.drill(1, false));
        GreatWave wave = Twins.busy();
        Check.yes("off", wave.drill(0, false));
        Check.due("off", wave.told(0, 7), 0);
        Check.no("off again", wave.drill(0, false));
        Check.yes("on", wave.drill(1, true));
        Check.due("on", wave.told(1, 7), 1);
        Check.no("on again", wave.drill(1, true));
        Check.due("one message waits", wave.sirenOf(1, 1), 1);
    }

    /** "false, doing nothing: no such SHORE" */
    private static void drillsOfShoresThatAreThere() {
        for (int shore : Twins.outside(0, 1)) {
            Twins.refuse("drill of shore " + shore, Twins::busy, w -> w.drill(shore, true));
            Twins.refuse("no drill of shore " + shore, Twins::busy, w -> w.drill(shore, false));
        }
        Twins.refuse("drill of no shore", Twins::bare, w -> w.drill(0, true));
        Twins.refuse("no drill of no shore", Twins::bare, w -> w.drill(0, false));
        Check.yes("drill of the last shore", Twins.full().drill(7, true));
        Twins.refuse("drill of shore 8", Twins::full, w -> w.drill(8, true));
    }

    /** "NONE, doing nothing: not 0 to 999" */
    private static void chancesToNineHundredNinetyNine() {
        for (int v : new int[] {0, 1, 998, 999}) {
            Check.due("chance " + v, Twins.busy().chance(v), 4);
            Check.due("first chance " + v, Twins.bare().chance(v), 1);
        }
        for (int v : Twins.outside(0, 999)) {
            Twins.answer("chance " + v, -1, Twins::busy, w -> w.chance(v));
            Twins.answer("first chance " + v, -1, Twins::bare, w -> w.chance(v));
        }
    }

    /** "A CHANCE comes behind the others: how many. NONE, doing nothing: .. 30 are there." */
    private static void thirtyChances() {
        GreatWave wave = wave("again 0;", 0);
        for (int i = 1; i <= 30; i++) {
            Check.due("chance " + i, wave.chance(i < 30 ? 0 : 999), i);
        }
        Check.due("a 31st", wave.chance(999), -1);
        wave.drill(0, true);
        wave.pass(29);
        told("29 are lost", wave, 0, 1, 29, 0, 0, 0);
        wave.pass(1);
        told("the 30th comes, the first for the answer doesn't", wave, 0, 1, 30, 1, 0, 1);
        Check.due("taken", wave.count(6), 31);
        Twins.answer("a 31st", -1, Twins::full, w -> w.chance(999));
        Twins.answer("a 31st", -1, SirenBoundsTest::thirtyThatWait, w -> w.chance(999));
    }

    private static GreatWave thirtyThatWait() {
        GreatWave wave = Twins.busy();
        for (int i = 3; i < 30; i++) {
            wave.chance(17 * i);
        }
        return wave;
    }

    /** "below 250 it's lost; else it's HEARD"; "below 250 that is lost; else it's answered" */
    private static void chancesBelowTwoHundredFifty() {
        int[] numbers = {0, 1, 248, 249, 250, 251, 998, 999};
        for (int sending : numbers) {
            for (int answer : numbers) {
                GreatWave wave = wave("", 0);
                chances(wave, sending, answer);
                wave.drill(0, true);
                wave.pass(1);
                boolean heard = sending >= 250;
                boolean answered = heard && answer >= 250;
                told(sending + ", then " + answer, wave, 0, answered ? 0 : 1, 1, heard ? 1 : 0, 0, heard ? 1 : 0);
                Check.due("taken of " + sending + ", " + answer, wave.count(6), heard ? 2 : 1);
            }
        }
    }

    /** "none: it comes" */
    private static void withoutChances() {
        GreatWave wave = wave("", 0, 0, 1);
        wave.drill(0, true);
        wave.pass(1);
        told("at once", wave, 0, 0, 1, 1, 0, 1);
        told("the other", wave, 1, 0, 1, 1, 0, 1);
        told("the other shore's", wave, 2, 0, 0, 0, 0, 0);
        Check.due("none taken", wave.count(6), 0);
        chances(wave, 999, 0);
        wave.drill(1, true);
        wave.pass(1);
        told("the first chance is number 0", wave, 2, 1, 1, 1, 0, 1);
        Check.due("two taken", wave.count(6), 2);
    }

    /** "the next is that whose number is how many were taken so far modulo how many there are" */
    private static void chancesRoundAndRound() {
        GreatWave single = wave("again 0;", 0);
        chances(single, 249);
        single.drill(0, true);
        single.pass(500);
        told("a single one", single, 0, 1, 500, 0, 0, 0);
        Check.due("taken", single.count(6), 500);
        // 500 modulo 2 is 0, 501 modulo 2 is 1.
        chances(single, 250);
        single.pass(1);
        told("number 0 of two", single, 0, 1, 501, 0, 0, 0);
        single.pass(1);
        told("number 1, then 0", single, 0, 1, 502, 1, 0, 1);
        single.pass(1);
        told("number 1, then 0", single, 0, 1, 503, 2, 0, 1);
        // 505 modulo 3 is 1, 506 modulo 3 is 2.
        chances(single, 250);
        single.pass(1);
        told("number 1, then 2", single, 0, 0, 504, 3, 0, 1);
        Check.due("taken", single.count(6), 507);
    }

    /** "Of a SIREN: 0 SHORE .. 5 in DRILLS. NONE: none such." */
    private static void sirenOfNone() {
        for (int what : Twins.outside(0, 5)) {
            Twins.answer("sirenOf(0, " + what + ")", -1, Twins::busy, w -> w.sirenOf(0, what));
        }
        for (int siren : Twins.outside(0, 1)) {
            for (int what = 0; what <= 5; what++) {
                int asked = what;
                Twins.answer("sirenOf(" + siren + ", " + what + ")", -1, Twins::busy, w -> w.sirenOf(siren, asked));
            }
        }
        Check.due("none at all", Twins.bare().sirenOf(0, 0), -1);
        Check.due("the last", Twins.full().sirenOf(5, 0), 5);
        Check.due("siren 6", Twins.full().sirenOf(6, 0), -1);
    }

    /** "and again each AGAIN MINUTES (0: each) till it's answered" */
    private static void againToTheMinute() {
        int[] agains = {0, 1, 2, 3, 5, 30, 499, 500, 9999};
        for (int again : agains) {
            GreatWave wave = wave("again " + again + ";", 0);
            wave.chance(0);
            wave.drill(0, true);
            int step = Math.max(1, again);
            wave.pass(1);
            told("again " + again + ": minute 0", wave, 0, 1, 1);
            if (step > 500) {
                wave.pass(500);
                told("again " + again + ": minute 500", wave, 0, 1, 1);
                continue;
            }
            if (step > 1) {
                wave.pass(step - 1);
                told("again " + again + ": a minute too early", wave, 0, 1, 1);
            }
            wave.pass(1);
            told("again " + again + ": in time", wave, 0, 1, 2);
            wave.pass(step);
            told("again " + again + ": a third time", wave, 0, 1, 3);
        }
        GreatWave answered = wave("again 0;", 0);
        chances(answered, 0, 250, 250);
        answered.drill(0, true);
        answered.pass(2);
        told("answered", answered, 0, 0, 2, 1, 0, 1);
        answered.pass(500);
        told("no more", answered, 0, 0, 2, 1, 0, 1);
    }

    /** "one that waits is sent as a MINUTE goes by (behind STATES ..)" */
    private static void sentBehindStates() {
        GreatWave wave = wave("", 0);
        wave.shake(0, 0, 80, 0);
        told("nothing waits before", wave, 0, 0, 0);
        wave.pass(1);
        told("in the minute in which it's warned", wave, 0, 0, 1, 1, 1, 0);
        wave.drill(0, true);
        told("a drill's waits", wave, 0, 1, 1, 1, 1, 0);
        wave.drill(0, false);
        told("and waits on", wave, 0, 1, 1, 1, 1, 0);
        wave.pass(1);
        told("till a minute goes by", wave, 0, 0, 2, 2, 1, 1);
    }

    /** "SIRENS by numbers, of one SIREN as they came" */
    private static void sirensByNumbersMessagesAsTheyCame() {
        // A chance of its own for each sending; only one of the four comes, and its answer is lost.
        for (int comes = 0; comes < 4; comes++) {
            GreatWave wave = wave("", 1, 0);
            for (int i = 0; i < 6; i++) {
                wave.chance(i == comes ? 999 : 0);
            }
            wave.drill(0, true);
            wave.drill(1, true);
            wave.shake(0, 0, 80, 0);
            wave.pass(1);
            told("the one that comes is " + comes + ": siren 0", wave, 0, 2, 2, comes < 2 ? 1 : 0, comes == 1 ? 1 : 0, comes == 0 ? 1 : 0);
            told("the one that comes is " + comes + ": siren 1", wave, 1, 2, 2, comes < 2 ? 0 : 1, comes == 3 ? 1 : 0, comes == 2 ? 1 : 0);
        }
        // Of three that wait the middle one is answered first, then the last, then the first.
        GreatWave wave = wave("again 0;", 0);
        for (int i = 0; i < 3; i++) {
            wave.drill(0, true);
            wave.drill(0, false);
        }
        chances(wave, 0, 999, 999, 0, 0, 999, 999, 999, 999);
        wave.pass(1);
        told("the middle one", wave, 0, 2, 3, 1, 0, 1);
        wave.pass(1);
        told("the last one", wave, 0, 1, 5, 2, 0, 2);
        wave.pass(1);
        told("the first one", wave, 0, 0, 6, 3, 0, 3);
        Check.due("taken", wave.count(6), 9);
    }

    /** "else it's HEARD: the first time it SOUNDS" */
    private static void soundsTheFirstTime() {
        GreatWave wave = wave("again 0;", 0);
        chances(wave, 250, 249);
        wave.shake(0, 0, 80, 0);
        wave.pass(10);
        told("heard ten times, sounds once", wave, 0, 1, 10, 10, 1, 0);
        wave.drill(0, true);
        wave.pass(10);
        told("the drill's sounds once, too", wave, 0, 2, 30, 30, 1, 1);
    }

    /** "A DRILL (on or off) of a SHORE has its own MESSAGES; DRILLS change no STATE." */
    private static void drillsChangeNoState() {
        GreatWave wave = Twins.busy();
        for (int shore = 0; shore < 2; shore++) {
            boolean on = wave.told(shore, 7) == 1;
            int state = wave.told(shore, 4);
            for (int i = 0; i < 4; i++) {
                on = !on;
                Check.yes("drill", wave.drill(shore, on));
                Check.due("state of " + shore, wave.told(shore, 4), state);
                Check.due("since of " + shore, wave.told(shore, 6), 0);
                Check.due("drill of " + shore, wave.told(shore, 7), on ? 1 : 0);
            }
        }
        GreatWave quiet = wave("", 0);
        quiet.drill(0, true);
        quiet.pass(100);
        Check.due("no state by a drill", quiet.told(0, 4), 0);
        told("no earnest by a drill", quiet, 0, 0, 1, 1, 0, 1);
    }

    /** "as it comes to be 2 (or a DRILL of it begins) a MESSAGE waits for each" */
    private static void messagesForSirensThatAreThere() {
        GreatWave wave = wave("", 0, 0, 1, 0, 0, 0);
        wave.drill(0, true);
        for (int siren = 0; siren < 6; siren++) {
            told("the drill's", wave, siren, siren == 2 ? 0 : 1, 0, 0, 0, 0);
        }
        wave.shake(0, 0, 80, 0);
        wave.pass(1);
        for (int siren = 0; siren < 6; siren++) {
            told("both", wave, siren, 0, siren == 2 ? 1 : 2, siren == 2 ? 1 : 2, 1, siren == 2 ? 0 : 1);
        }
        GreatWave late = wave("");
        late.drill(0, true);
        late.siren(0);
        late.pass(1);
        told("a siren that came behind", late, 0, 0, 0, 0, 0, 0);
        GreatWave none = wave("");
        Check.yes("a drill without sirens", none.drill(0, true));
        Check.due("goes by", none.pass(5), 5);
    }
}
