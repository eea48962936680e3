/** Promises 20 to 23: sirens, drills, chances, and what is told of a siren. */
public final class SirenTest {
    public static void main(String[] args) {
        sirens();
        drills();
        chances();
        wrongAsked();
        withoutChances();
        lostSendings();
        lostAnswers();
        edgesOfChance();
        roundAndRound();
        order();
        againByLaw();
        againChanged();
        messagesOutliveDrillsAndStates();
        drillsNeverMix();
        lateSirens();
        manyMessages();
        Check.end();
    }

    private static GreatWave wave(int... sirenShores) {
        GreatWave wave = new GreatWave(8, 4);
        wave.shore(7, 0);
        wave.shore(7, 3);
        for (int shore : sirenShores) {
            wave.siren(shore);
        }
        return wave;
    }

    private static void chancesOf(GreatWave wave, int... numbers) {
        for (int number : numbers) {
            wave.chance(number);
        }
    }

    /** Waiting, sendings, heard, sounded in earnest and in drills. */
    private static void told(String when, GreatWave wave, int siren, int... want) {
        for (int i = 0; i < want.length; i++) {
            Check.due(when + ": sirenOf(" + siren + ", " + (i + 1) + ")", wave.sirenOf(siren, i + 1), want[i]);
        }
    }

    private static void sirens() {
        GreatWave wave = wave();
        int[] wrong = {2, -1, Integer.MAX_VALUE, Integer.MIN_VALUE};
        for (int shore : wrong) {
            Check.due("siren(" + shore + ")", wave.siren(shore), -1);
        }
        for (int i = 0; i < 6; i++) {
            Check.due("count(4)", wave.count(4), i);
            Check.due("siren " + i, wave.siren(i % 2), i);
        }
        Check.due("a seventh", wave.siren(0), -1);
        Check.due("count(4)", wave.count(4), 6);
        for (int i = 0; i < 6; i++) {
            Check.due("its shore", wave.sirenOf(i, 0), i % 2);
            told("at first", wave, i, 0, 0, 0, 0, 0);
        }
    }

    private static void drills() {
        GreatWave wave = wave(0);
        Check.no("no such shore", wave.drill(2, true));
        Check.no("no such shore", wave.drill(-1, true));
        Check.no("no such shore", wave.drill(Integer.MAX_VALUE, false));
        Check.no("it's off", wave.drill(0, false));
        told("nothing done", wave, 0, 0);
        Check.yes("on", wave.drill(0, true));
        told("waits", wave, 0, 1, 0, 0, 0, 0);
        Check.no("it's on", wave.drill(0, true));
        told("nothing done", wave, 0, 1);
        Check.due("the other shore", wave.told(1, 7), 0);
        Check.yes("off", wave.drill(0, false));
        told("ending calls none", wave, 0, 1);
        Check.yes("on again", wave.drill(0, true));
        told("two wait", wave, 0, 2);
        Check.yes("of a shore without sirens", wave.drill(1, true));
        told("no matter here", wave, 0, 2);
        Check.due("no state", wave.told(0, 4), 0);
        Check.due("no state since", wave.told(0, 6), -1);
    }

    private static void chances() {
        GreatWave wave = wave(0);
        int[] wrong = {-1, 1000, Integer.MAX_VALUE, Integer.MIN_VALUE};
        for (int v : wrong) {
            Check.due("chance(" + v + ")", wave.chance(v), -1);
        }
        for (int i = 1; i <= 30; i++) {
            Check.due("chance " + i, wave.chance(i % 2 == 0 ? 0 : 999), i);
        }
        Check.due("a 31st", wave.chance(500), -1);
        Check.due("none taken", wave.count(6), 0);
        Check.law(wave, "again 0;");
        wave.drill(0, true);
        wave.pass(16);
        // Each sending is heard and each answer is lost.
        told("30 round and round", wave, 0, 1, 16, 16, 0, 1);
        Check.due("taken", wave.count(6), 32);
    }

    private static void wrongAsked() {
        GreatWave wave = wave(1);
        int[][] wrong = {{1, 0}, {-1, 0}, {0, 6}, {0, -1}, {6, 0}, {Integer.MAX_VALUE, 1}, {0, Integer.MIN_VALUE}};
        for (int[] w : wrong) {
            Check.due("sirenOf" + java.util.Arrays.toString(w), wave.sirenOf(w[0], w[1]), -1);
        }
        Check.due("shore", wave.sirenOf(0, 0), 1);
    }

    private static void withoutChances() {
        GreatWave wave = wave(0);
        wave.shake(0, 0, 80, 0);
        told("not before a minute goes by", wave, 0, 0, 0, 0, 0, 0);
        wave.pass(1);
        told("answered at once", wave, 0, 0, 1, 1, 1, 0);
        Check.due("none taken", wave.count(6), 0);
        wave.pass(400);
        told("once", wave, 0, 0, 1, 1, 1, 0);
        wave.chance(100);
        wave.drill(0, true);
        wave.pass(1);
        told("a chance from now on", wave, 0, 1, 2, 1, 1, 0);
        Check.due("one taken", wave.count(6), 1);
    }

    private static void lostSendings() {
        GreatWave wave = wave(0);
        chancesOf(wave, 249, 0, 100, 999, 998);
        wave.shake(0, 0, 80, 0);
        wave.pass(5);
        told("lost", wave, 0, 1, 1, 0, 0, 0);
        wave.pass(1);
        told("lost again", wave, 0, 1, 2, 0, 0, 0);
        wave.pass(5);
        told("and again", wave, 0, 1, 3, 0, 0, 0);
        wave.pass(5);
        told("answered", wave, 0, 0, 4, 1, 1, 0);
        Check.due("taken", wave.count(6), 5);
        wave.pass(50);
        told("no more", wave, 0, 0, 4, 1, 1, 0);
    }

    private static void lostAnswers() {
        GreatWave wave = wave(0);
        chancesOf(wave, 999, 0, 999, 249, 100, 999, 999);
        wave.shake(0, 0, 80, 0);
        wave.pass(1);
        told("heard", wave, 0, 1, 1, 1, 1, 0);
        wave.pass(5);
        told("heard again, sounds once", wave, 0, 1, 2, 2, 1, 0);
        wave.pass(5);
        told("lost", wave, 0, 1, 3, 2, 1, 0);
        wave.pass(5);
        told("answered", wave, 0, 0, 4, 3, 1, 0);
        Check.due("taken", wave.count(6), 7);
    }

    private static void edgesOfChance() {
        int[][] cases = {{249, 1, 0}, {250, 0, 1}};
        for (int[] c : cases) {
            GreatWave wave = wave(0);
            wave.chance(c[0]);
            wave.drill(0, true);
            wave.pass(1);
            told("chance " + c[0], wave, 0, c[1], 1, c[2], 0, c[2]);
        }
    }

    private static void roundAndRound() {
        GreatWave wave = wave(0);
        chancesOf(wave, 100, 100);
        Check.law(wave, "again 1;");
        wave.drill(0, true);
        wave.pass(3);
        told("lost thrice", wave, 0, 1, 3, 0, 0, 0);
        chancesOf(wave, 300, 301, 100);
        // Three were taken: of five chances the next is that of number 3, then that of number 4.
        wave.pass(1);
        told("number 3, then 4", wave, 0, 1, 4, 1, 0, 1);
        wave.pass(2);
        told("number 0, then 1", wave, 0, 1, 6, 1, 0, 1);
        wave.pass(1);
        told("number 2, then 3", wave, 0, 0, 7, 2, 0, 1);
        Check.due("taken", wave.count(6), 9);
    }

    private static void order() {
        GreatWave wave = wave(1, 0, 1);
        chancesOf(wave, 999, 0, 0, 999, 999);
        wave.drill(1, true);
        wave.shake(0, 0, 80, 0);
        wave.pass(1);
        // Siren 0: the drill's is heard, its answer lost; the earnest one is lost.
        told("siren 0", wave, 0, 2, 2, 1, 0, 1);
        told("siren 1", wave, 1, 0, 1, 1, 1, 0);
        // Siren 2: 999, 0 for the drill's; 0 for the earnest one.
        told("siren 2", wave, 2, 2, 2, 1, 0, 1);
        Check.due("taken", wave.count(6), 8);
    }

    private static void againByLaw() {
        int[][] cases = {{0, 10}, {1, 10}, {2, 5}, {3, 4}, {9, 2}, {10, 1}, {9999, 1}};
        for (int[] c : cases) {
            GreatWave wave = wave(0);
            wave.chance(0);
            Check.law(wave, "again " + c[0] + ";");
            wave.drill(0, true);
            wave.pass(10);
            told("again " + c[0], wave, 0, 1, c[1], 0, 0, 0);
        }
    }

    private static void againChanged() {
        GreatWave wave = wave(0);
        wave.chance(0);
        wave.drill(0, true);
        wave.pass(4);
        told("sent in minute 0", wave, 0, 1, 1);
        Check.law(wave, "again 2;");
        wave.pass(1);
        told("sent in minute 4", wave, 0, 1, 2);
        Check.law(wave, "again 8;");
        wave.pass(7);
        told("not before minute 12", wave, 0, 1, 2);
        wave.pass(1);
        told("sent in minute 12", wave, 0, 1, 3);
    }

    private static void messagesOutliveDrillsAndStates() {
        GreatWave wave = wave(0);
        chancesOf(wave, 0, 0, 0, 999, 999, 999, 999);
        wave.drill(0, true);
        wave.shake(0, 0, 80, 0);
        wave.pass(1);
        told("both lost", wave, 0, 2, 2, 0, 0, 0);
        wave.drill(0, false);
        wave.undo();
        told("both wait", wave, 0, 2, 2, 0, 0, 0);
        wave.pass(5);
        told("the first lost, the second answered", wave, 0, 1, 4, 1, 1, 0);
        wave.pass(5);
        told("the first answered", wave, 0, 0, 5, 2, 1, 1);
    }

    private static void drillsNeverMix() {
        GreatWave wave = wave(0, 1);
        wave.drill(0, true);
        wave.pass(3);
        told("in a drill", wave, 0, 0, 1, 1, 0, 1);
        told("not of this shore", wave, 1, 0, 0, 0, 0, 0);
        Check.due("no state", wave.told(0, 4), 0);
        wave.shake(0, 0, 80, 0);
        wave.pass(1);
        told("in earnest during a drill", wave, 0, 0, 2, 2, 1, 1);
        told("in earnest", wave, 1, 0, 1, 1, 1, 0);
        Check.due("state", wave.told(0, 4), 2);
        wave.drill(0, false);
        Check.due("state stays", wave.told(0, 4), 2);
        wave.drill(0, true);
        wave.pass(1);
        told("another drill", wave, 0, 0, 3, 3, 1, 2);
        Check.due("state stays", wave.told(0, 6), 3);
        wave.shake(0, 0, 80, 0);
        wave.pass(1);
        told("warned stays: no message", wave, 0, 0, 3, 3, 1, 2);
        wave.undo();
        wave.shake(0, 0, 80, 0);
        wave.pass(1);
        told("warned again: a message", wave, 0, 0, 4, 4, 2, 2);
        GreatWave watched = wave(0);
        watched.shake(0, 0, 65, 0);
        watched.pass(1);
        told("watched: no message", watched, 0, 0, 0, 0, 0, 0);
    }

    private static void lateSirens() {
        GreatWave wave = wave();
        wave.drill(0, true);
        wave.shake(0, 0, 80, 0);
        wave.pass(1);
        wave.siren(0);
        wave.pass(5);
        told("came late", wave, 0, 0, 0, 0, 0, 0);
    }

    private static void manyMessages() {
        GreatWave wave = wave(0, 0, 0, 0, 0, 0);
        wave.chance(0);
        for (int i = 0; i < 120; i++) {
            wave.drill(0, true);
            wave.drill(0, false);
        }
        for (int i = 0; i < 6; i++) {
            told("all wait", wave, i, 120, 0, 0, 0, 0);
        }
        wave.pass(6);
        for (int i = 0; i < 6; i++) {
            told("sent twice", wave, i, 120, 240, 0, 0, 0);
        }
        Check.due("taken", wave.count(6), 1440);
        chancesOf(wave, 250, 250);
        // 1,440 by three: the first chance, which is lost, then two that come, for each two sendings.
        wave.pass(5);
        for (int i = 0; i < 6; i++) {
            told("every second one", wave, i, 60, 360, 60, 0, 60);
        }
    }
}
