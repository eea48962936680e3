/** Promises 24 to 27: the tape, the law's text with its faults, and what is counted. */
public final class LawTest {
    private static final int BLANKS = 0x20202020;

    public static void main(String[] args) {
        tape();
        wrongLengths();
        goodTexts();
        faults();
        lawStays();
        elevenStatements();
        strangeBytes();
        counts();
        Check.end();
    }

    private static GreatWave wave() {
        return new GreatWave(4, 4);
    }

    private static void inForce(String when, GreatWave wave, int... want) {
        for (int i = 0; i < want.length; i++) {
            Check.due(when + ": count(" + (8 + i) + ")", wave.count(8 + i), want[i]);
        }
    }

    private static void tape() {
        GreatWave wave = wave();
        for (int i = 1; i <= 15; i++) {
            Check.due("feed " + i, wave.feed(BLANKS, BLANKS, BLANKS, BLANKS, BLANKS), 20 * i);
            Check.due("count(7)", wave.count(7), 20 * i);
        }
        Check.due("too much", wave.feed(BLANKS, BLANKS, BLANKS, BLANKS, BLANKS), -1);
        Check.due("nothing done", wave.count(7), 300);
        Check.due("blanks alone", wave.law(300), 0);
        Check.due("the tape is empty", wave.count(7), 0);
        // "again 7;" at the end of five numbers: the highest byte of each comes first.
        Check.due("feed", wave.feed(BLANKS, BLANKS, BLANKS, 0x61676169, 0x6E20373B), 20);
        Check.due("law", wave.law(20), 1);
        inForce("bytes in order", wave, 30, 100, 180, 120, 7);
        wave.feed(0x77617463, 0x68203132, 0x3B686F6C, 0x6420390A, 0x3B202020);
        Check.due("the first n bytes", wave.law(9), 1);
        inForce("the first n bytes", wave, 12, 100, 180, 120, 5);
        Check.due("the rest is gone", wave.count(7), 0);
    }

    private static void wrongLengths() {
        GreatWave wave = wave();
        Check.due("no fault at first", wave.fault(), -1);
        Check.due("nothing is there", wave.law(1), -2);
        Check.due("an empty law", wave.law(0), 0);
        Check.due("hold", Check.law(wave, "hold"), -1);
        wave.feed(BLANKS, BLANKS, BLANKS, BLANKS, BLANKS);
        int[] wrong = {-1, 21, 300, Integer.MAX_VALUE, Integer.MIN_VALUE};
        for (int n : wrong) {
            Check.due("law(" + n + ")", wave.law(n), -2);
            Check.due("the fault stays", wave.fault(), 4);
            Check.due("the tape stays", wave.count(7), 20);
        }
        Check.due("law(0)", wave.law(0), 0);
        Check.due("no fault", wave.fault(), -1);
        Check.due("the tape is empty", wave.count(7), 0);
    }

    private static void good(String text, int statements, int... want) {
        GreatWave wave = wave();
        Check.law(wave, "watch 1; warn 2; lead 3; hold 4; again 6;");
        inForce("before " + text, wave, 1, 2, 3, 4, 6);
        Check.due(text, Check.law(wave, text), statements);
        Check.due(text + ": fault", wave.fault(), -1);
        inForce(text, wave, want);
    }

    private static void goodTexts() {
        good("", 0, 30, 100, 180, 120, 5);
        good("  \n ", 0, 30, 100, 180, 120, 5);
        good("watch 1;", 1, 1, 100, 180, 120, 5);
        good("warn 1;", 1, 30, 1, 180, 120, 5);
        good("lead 1;", 1, 30, 100, 1, 120, 5);
        good("hold 1;", 1, 30, 100, 180, 1, 5);
        good("again 1;", 1, 30, 100, 180, 120, 1);
        good("again0;hold9999;lead0000;warn0012;watch7;", 5, 7, 12, 0, 9999, 0);
        good("\n watch\n 4321 \n; \n", 1, 4321, 100, 180, 120, 5);
        good("watch 1;watch 2;warn 3;watch 9;warn 5;", 5, 9, 5, 180, 120, 5);
    }

    private static void bad(String text, int place) {
        GreatWave wave = wave();
        Check.law(wave, "watch 1; warn 2; lead 3; hold 4; again 6;");
        Check.due(text, Check.law(wave, text), -1);
        Check.due(text + ": fault", wave.fault(), place);
        Check.due(text + ": the tape is empty", wave.count(7), 0);
        inForce(text, wave, 1, 2, 3, 4, 6);
    }

    private static void faults() {
        bad("watch", 5);
        bad("watch  ", 7);
        bad("watch 5", 7);
        bad("watch 5 \n", 9);
        bad("watch;", 5);
        bad(" watch watch 5;", 7);
        bad("watch 5 5;", 8);
        bad("watch 5 watch 5;", 8);
        bad("watch 12345;", 6);
        bad("watch 00001;", 6);
        bad("watch 5;;", 8);
        bad(";", 0);
        bad("  5", 2);
        bad("wat", 0);
        bad("watc h 5;", 0);
        bad("watchs 5;", 0);
        bad("watchwarn 5;", 0);
        bad("watch 5;hol", 8);
        bad("hold 1;lead", 11);
        bad("watchz 5;", 0);
        bad("watcha 5;", 0);
        bad("zwatch 5;", 0);
        bad("watch 99990;", 6);
        bad("watch 00009;", 6);
        bad("Watch 5;", 0);
        bad("wAtch 5;", 0);
        bad("watch 5;warn -5;", 13);
        bad("watch 5,", 7);
        bad("watch\t5;", 5);
        bad("watch 5;\r", 8);
        bad("watch 5; # ", 9);
        bad("watch 5a;", 7);
        bad("watch 1234a;", 10);
        bad("5 watch;", 0);
        bad("a", 0);
        bad("{", 0);
        bad("watch `", 6);
        bad("watch /", 6);
        bad("watch :", 6);
        bad("watch 1:", 7);
        bad("watch 1<", 7);
    }

    private static void lawStays() {
        GreatWave wave = wave();
        Check.law(wave, "watch 1; again 9;");
        Check.due("a fault behind good statements", Check.law(wave, "watch 2; again 8; hold;"), -1);
        inForce("stays", wave, 1, 100, 180, 120, 9);
        Check.due("fault", wave.fault(), 22);
        Check.due("another law", Check.law(wave, "again 8;"), 1);
        inForce("in place of what was", wave, 30, 100, 180, 120, 8);
        Check.due("no fault", wave.fault(), -1);
    }

    private static void elevenStatements() {
        StringBuilder ten = new StringBuilder();
        for (int i = 0; i < 10; i++) {
            ten.append("hold ").append(i).append("; ");
        }
        good(ten.toString(), 10, 30, 100, 180, 9, 5);
        bad(ten + "hold 5;", 80);
        bad(ten + " \nhold", 82);
        bad(ten + "hol", 80);
        bad(ten + ";", 80);
        bad(ten + "hold 5; hold;", 80);
        bad(ten.substring(0, 78) + " !", 79);
        bad(ten.substring(0, 78), 78);
    }

    private static void strangeBytes() {
        for (int sign = 0; sign < 256; sign++) {
            GreatWave wave = wave();
            String text = "again 3;" + (char) sign;
            boolean blank = sign == 32 || sign == 10;
            Check.due("byte " + sign, Check.law(wave, text), blank ? 1 : -1);
            Check.due("byte " + sign + ": fault", wave.fault(), blank ? -1 : 8);
        }
        GreatWave wave = wave();
        wave.feed(-1, -1, -1, -1, -1);
        Check.due("all bits", wave.law(20), -1);
        Check.due("all bits: fault", wave.fault(), 0);
        wave.feed(0, 0, 0, 0, 0);
        Check.due("no bits", wave.law(1), -1);
    }

    private static void counts() {
        GreatWave wave = wave();
        int[] atFirst = {0, 0, 0, 0, 0, 0, 0, 0, 30, 100, 180, 120, 5};
        for (int what = 0; what < atFirst.length; what++) {
            Check.due("count(" + what + ")", wave.count(what), atFirst[what]);
        }
        int[] wrong = {-1, 13, Integer.MAX_VALUE, Integer.MIN_VALUE};
        for (int what : wrong) {
            Check.due("count(" + what + ")", wave.count(what), -1);
        }
        wave.shore(0, 0);
        wave.shore(0, 0);
        wave.buoy(0, 0);
        wave.buoy(0, 0);
        wave.buoy(0, 0);
        wave.piece();
        wave.siren(0);
        wave.siren(0);
        wave.siren(1);
        wave.siren(0);
        wave.chance(999);
        wave.shake(0, 0, 80, 0);
        wave.pass(9);
        wave.feed(0, 0, 0, 0, 0);
        int[] behind = {9, 2, 3, 1, 4, 1, 8, 20, 30, 100, 180, 120, 5};
        for (int what = 0; what < behind.length; what++) {
            Check.due("count(" + what + ")", wave.count(what), behind[what]);
        }
        Check.due("NONE", GreatWave.NONE, -1);
    }
}
