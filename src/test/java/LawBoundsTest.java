/** The boundary cases of promises 24 to 27, a test for each sentence that names one. */
public final class LawBoundsTest {
    private static final int BLANKS = 0x20202020;
    private static final String[] WORDS = {"watch", "warn", "lead", "hold", "again"};
    private static final int[] AT_FIRST = {30, 100, 180, 120, 5};

    public static void main(String[] args) {
        threeHundredBytes();
        bytesHighestFirst();
        lengthsOfTheLaw();
        firstBytesAlone();
        tapeIsEmptyThen();
        emptyLaw();
        numbersOfOneToFourDigits();
        fiveWords();
        tokensAsLongAsTheyGo();
        twoBlanks();
        bytesThatBeginNoToken();
        tenStatements();
        faultWhereNoTextGoesOn();
        faultAtTheEnd();
        lastOfEach();
        lawStaysBehindAFault();
        faultOfTheLatest();
        countsOfNone();
        inForceFromThenOn();
        Check.end();
    }

    private static void inForce(String when, GreatWave wave, int... want) {
        for (int i = 0; i < 5; i++) {
            Check.due(when + ": count(" + (8 + i) + ")", wave.count(8 + i), want[i]);
        }
    }

    private static void good(String text, int statements) {
        GreatWave wave = Twins.bare();
        Check.due("law of '" + text + "'", Check.law(wave, text), statements);
        Check.due("fault of '" + text + "'", wave.fault(), -1);
        Check.due("tape behind '" + text + "'", wave.count(7), 0);
    }

    private static void bad(String text, int place) {
        GreatWave wave = Twins.bare();
        Check.law(wave, "watch 1; warn 2; lead 3; hold 4; again 6;");
        Check.due("law of '" + text + "'", Check.law(wave, text), -1);
        Check.due("fault of '" + text + "'", wave.fault(), place);
        Check.due("tape behind '" + text + "'", wave.count(7), 0);
        inForce("stays behind '" + text + "'", wave, 1, 2, 3, 4, 6);
    }

    /** "Twenty bytes come ..: how many there are. NONE, doing nothing: there would be more than 300." */
    private static void threeHundredBytes() {
        GreatWave wave = Twins.bare();
        for (int bytes = 20; bytes <= 300; bytes += 20) {
            Check.due("feed to " + bytes, wave.feed(BLANKS, BLANKS, BLANKS, BLANKS, BLANKS), bytes);
            Check.due("on the tape", wave.count(7), bytes);
        }
        Check.due("feed to 320", wave.feed(BLANKS, BLANKS, BLANKS, BLANKS, BLANKS), -1);
        Check.due("on the tape", wave.count(7), 300);
        Twins.answer("feed to 320", -1, Twins::full, w -> w.feed(0x77617463, 0x68203B3B, 1, 2, 3));
        GreatWave again = Twins.full();
        Check.due("all of it", again.law(300), 0);
        Check.due("room again", again.feed(BLANKS, BLANKS, BLANKS, BLANKS, BLANKS), 20);
        GreatWave last = Twins.bare();
        for (int i = 0; i < 14; i++) {
            last.feed(BLANKS, BLANKS, BLANKS, BLANKS, BLANKS);
        }
        last.feed(BLANKS, BLANKS, BLANKS, 0x61676169, 0x6E20373B);
        Check.due("the last byte of 300", last.law(300), 1);
        inForce("the last byte of 300", last, 30, 100, 180, 120, 7);
    }

    /** "of each number the highest first" */
    private static void bytesHighestFirst() {
        // "watch1;warn 2;hold3;" in five numbers.
        GreatWave wave = Twins.bare();
        wave.feed(0x77617463, 0x68313B77, 0x61726E20, 0x323B686F, 0x6C64333B);
        Check.due("bytes in order", wave.law(20), 3);
        inForce("bytes in order", wave, 1, 2, 180, 3, 5);
        for (int at = 0; at < 20; at++) {
            int[] numbers = {BLANKS, BLANKS, BLANKS, BLANKS, BLANKS};
            int shift = 24 - 8 * (at % 4);
            // The byte is 255, the highest one; all others are blanks.
            numbers[at / 4] = numbers[at / 4] | 255 << shift;
            GreatWave strange = Twins.bare();
            strange.feed(numbers[0], numbers[1], numbers[2], numbers[3], numbers[4]);
            Check.due("byte " + at, strange.law(20), -1);
            Check.due("byte " + at, strange.fault(), at);
        }
    }

    /** "-2, doing nothing: n is below 0 or more than there are" */
    private static void lengthsOfTheLaw() {
        for (int n : Twins.outside(0, 20)) {
            Twins.answer("law of " + n, -2, Twins::busy, w -> w.law(n));
        }
        for (int n : Twins.outside(0, 0)) {
            Twins.answer("law of " + n + " of an empty tape", -2, Twins::bare, w -> w.law(n));
        }
        for (int n : Twins.outside(0, 300)) {
            Twins.answer("law of " + n + " of a full tape", -2, Twins::full, w -> w.law(n));
        }
        Check.due("law of 0 of an empty tape", Twins.bare().law(0), 0);
        Check.due("law of all 20", Twins.busy().law(20), 2);
        Check.due("law of all 300", Twins.full().law(300), 0);
    }

    /** "The first n bytes of the tape": what stands behind them isn't looked at, even in a token. */
    private static void firstBytesAlone() {
        // The tape is "hold 7; watch 15;   ": the answer and the fault for each n.
        for (int n = 0; n <= 20; n++) {
            GreatWave wave = Twins.busy();
            int want = n == 0 ? 0 : n == 7 || n == 8 ? 1 : n >= 17 ? 2 : -1;
            int fault = want >= 0 ? -1 : n < 4 ? 0 : n < 7 ? n : n < 13 ? 8 : n;
            Check.due("the first " + n, wave.law(n), want);
            Check.due("fault of the first " + n, wave.fault(), fault);
            Check.due("tape behind the first " + n, wave.count(7), 0);
        }
        GreatWave digits = Twins.bare();
        // "warn 12345;         "
        digits.feed(0x7761726E, 0x20313233, 0x34353B20, BLANKS, BLANKS);
        Check.due("four of five digits", digits.law(9), -1);
        Check.due("more must come", digits.fault(), 9);
        digits.feed(0x7761726E, 0x20313233, 0x34353B20, BLANKS, BLANKS);
        Check.due("five digits", digits.law(11), -1);
        Check.due("five digits", digits.fault(), 5);
    }

    /** "the tape (which is empty then)" */
    private static void tapeIsEmptyThen() {
        for (int n = 0; n <= 20; n++) {
            GreatWave wave = Twins.busy();
            wave.law(n);
            Check.due("tape behind law of " + n, wave.count(7), 0);
            Check.due("law of 1 behind law of " + n, wave.law(1), -2);
            Check.due("feed behind law of " + n, wave.feed(BLANKS, BLANKS, BLANKS, BLANKS, BLANKS), 20);
            Check.due("nothing of it is left", wave.law(20), 0);
        }
    }

    /** "{..}": no statement at all is a law, too; "else WATCH 30, WARN 100, LEAD 180, HOLD 120, AGAIN 5" */
    private static void emptyLaw() {
        for (String text : new String[] {"", " ", "\n", " \n \n  "}) {
            GreatWave wave = Twins.bare();
            Check.law(wave, "watch 1; warn 2; lead 3; hold 4; again 6;");
            Check.due("law of blanks", Check.law(wave, text), 0);
            Check.due("fault of blanks", wave.fault(), -1);
            inForce("in place of what was", wave, AT_FIRST);
        }
    }

    /** "NUMBER: one to four digits." */
    private static void numbersOfOneToFourDigits() {
        String[] numbers = {"0", "9", "00", "10", "99", "000", "100", "999", "0000", "0001", "1000", "9999"};
        for (int word = 0; word < 5; word++) {
            for (String number : numbers) {
                GreatWave wave = Twins.bare();
                Check.due("law", Check.law(wave, WORDS[word] + " " + number + ";"), 1);
                int[] want = AT_FIRST.clone();
                want[word] = Integer.parseInt(number);
                inForce(WORDS[word] + " " + number, wave, want);
            }
            int place = WORDS[word].length() + 1;
            bad(WORDS[word] + " ;", place);
            for (String number : new String[] {"00000", "00001", "10000", "99999", "123456", "4294967301", "99999999999999999999"}) {
                bad(WORDS[word] + " " + number + ";", place);
            }
        }
    }

    /** The five words, and none that is a letter away from one. */
    private static void fiveWords() {
        for (String word : WORDS) {
            good(word + "1;", 1);
            bad(word.toUpperCase(java.util.Locale.ROOT) + "1;", 0);
            bad(word + word + "1;", 0);
            for (int at = 0; at < word.length(); at++) {
                bad(word.substring(0, at) + 'q' + word.substring(at + 1) + "1;", 0);
                bad(word.substring(0, at) + word.substring(at + 1) + "1;", 0);
                bad(word.substring(0, at) + 'q' + word.substring(at) + "1;", 0);
            }
            bad(word + "q1;", 0);
            for (int length = 1; length < word.length(); length++) {
                bad(word.substring(0, length), 0);
                bad(word.substring(0, length) + " " + word.substring(length) + "1;", 0);
            }
        }
    }

    /** "Tokens as long as they go: words of letters a to z, digits, ';'" */
    private static void tokensAsLongAsTheyGo() {
        good("watch1;warn2;lead3;hold4;again5;", 5);
        good("watch 1 ; warn 2 ;", 2);
        bad("watchwarn1;", 0);
        bad("watch1watch2;", 6);
        bad("watch1a;", 6);
        bad("watch1 2;", 7);
        bad("watch12 3;", 8);
        bad("watch1234 5;", 10);
        bad("watch1;;", 7);
        bad("watch1; ;", 8);
        bad(";watch1;", 0);
    }

    /** "between them blanks (bytes 32 and 10)" */
    private static void twoBlanks() {
        for (int sign = 0; sign < 256; sign++) {
            boolean blank = sign == 32 || sign == 10;
            String s = String.valueOf((char) sign);
            if (blank) {
                good(s + "watch" + s + "1" + s + ";" + s, 1);
                continue;
            }
            bad(s + "watch 1;", 0);
            bad("watch 1;" + s, 8);
            boolean letter = sign >= 'a' && sign <= 'z';
            boolean digit = sign >= '0' && sign <= '9';
            if (digit) {
                good("watch" + s + "1;", 1);
                good("watch 1" + s + ";", 1);
            } else {
                bad("watch" + s + "1;", letter ? 0 : 5);
                bad("watch 1" + s + ";", sign == ';' ? 8 : 7);
            }
        }
    }

    /** "or byte that begins none" */
    private static void bytesThatBeginNoToken() {
        // The neighbours of a, z, 0, 9 and ";", and bytes that are blanks or letters but for a bit.
        int[] strange = {'`', '{', '/', ':', '<', 0, 9, 11, 13, 31, 33, 127, 128, 10 + 128, 32 + 128, 'w' + 128, 'W', 255};
        for (int sign : strange) {
            bad("  " + (char) sign, 2);
            bad("watch " + (char) sign, 6);
            bad("watch 1 " + (char) sign, 8);
            bad("watch 1; " + (char) sign, 9);
            bad("watch 1; " + (char) sign + (char) sign, 9);
        }
    }

    private static String statements(int count) {
        StringBuilder text = new StringBuilder();
        for (int i = 0; i < count; i++) {
            text.append("lead ").append(i % 10).append("; ");
        }
        return text.toString();
    }

    /** "At most 10 statements."; "the 11th statement: where it begins" */
    private static void tenStatements() {
        for (int count = 0; count <= 10; count++) {
            good(statements(count), count);
        }
        bad(statements(11), 80);
        bad(statements(12), 80);
        bad(statements(10) + "\n  hold 1;", 83);
        bad(statements(10) + "hold", 80);
        bad(statements(10) + "hold 12345;", 80);
        bad(statements(10) + "q", 80);
        bad(statements(10) + "7", 80);
        bad(statements(10) + ";", 80);
        bad(statements(9) + "lead 1 lead 2;", 79);
        bad(statements(9) + "lead", 76);
    }

    /** "FAULT: the place of the first byte of the first token .. with which no such text goes on" */
    private static void faultWhereNoTextGoesOn() {
        String[] tokens = {"watch", "7", ";", "wat", "12345", "#"};
        int[] fits = {0, 1, 2};
        for (int i = 0; i < tokens.length; i++) {
            for (int stage = 0; stage < 3; stage++) {
                StringBuilder text = new StringBuilder("hold 1; ");
                for (int before = 0; before < stage; before++) {
                    text.append(tokens[fits[before]]).append(' ');
                }
                int place = text.length();
                text.append(tokens[i]);
                if (i != fits[stage]) {
                    bad(text.toString(), place);
                    bad(text + " watch 1; #", place);
                } else if (stage == 2) {
                    good(text.toString(), 2);
                } else {
                    bad(text.toString(), text.length());
                }
            }
        }
    }

    /** "the text's length, if more must come" */
    private static void faultAtTheEnd() {
        for (String blanks : new String[] {"", " ", "\n", "  \n "}) {
            bad("watch" + blanks, 5 + blanks.length());
            bad("watch 1" + blanks, 7 + blanks.length());
            bad("watch 1; warn" + blanks, 13 + blanks.length());
            bad("watch 1; warn 2" + blanks, 15 + blanks.length());
            bad(blanks + "again", 5 + blanks.length());
        }
        StringBuilder longest = new StringBuilder("again 77");
        while (longest.length() < 300) {
            longest.append('\n');
        }
        bad(longest.toString(), 300);
        longest.setCharAt(299, ';');
        good(longest.toString(), 1);
    }

    /** "(the last of each; else ..)" */
    private static void lastOfEach() {
        for (int word = 0; word < 5; word++) {
            GreatWave wave = Twins.bare();
            String law = WORDS[word] + " 7;" + WORDS[word] + " 8;" + WORDS[(word + 1) % 5] + " 3;" + WORDS[word] + " 9;";
            Check.due(law, Check.law(wave, law), 4);
            int[] want = AT_FIRST.clone();
            want[word] = 9;
            want[(word + 1) % 5] = 3;
            inForce(law, wave, want);
            Check.due("another", Check.law(wave, WORDS[(word + 2) % 5] + " 4;"), 1);
            int[] next = AT_FIRST.clone();
            next[(word + 2) % 5] = 4;
            inForce("in place of what was", wave, next);
        }
    }

    /** "NONE: a FAULT (THE LAW stays)", with nothing of the statements before it. */
    private static void lawStaysBehindAFault() {
        bad("watch 11; warn 12; lead 13; hold 14; again 16; hold", 51);
        bad("watch 11; warn 12; lead 13; hold 14; again 16; #", 47);
        bad(statements(11), 80);
        GreatWave wave = Twins.bare();
        Check.due("a fault at first", Check.law(wave, "watch 1; #"), -1);
        inForce("at first", wave, AT_FIRST);
    }

    /** "The FAULT's place of the latest law() that was a number or NONE; NONE: it had none." */
    private static void faultOfTheLatest() {
        GreatWave wave = Twins.bare();
        Check.due("no law yet", wave.fault(), -1);
        wave.law(1);
        Check.due("none but -2", wave.fault(), -1);
        Check.law(wave, "watch");
        Check.due("a fault", wave.fault(), 5);
        Check.due("-2", wave.law(1), -2);
        Check.due("stays behind -2", wave.fault(), 5);
        wave.feed(BLANKS, BLANKS, BLANKS, BLANKS, BLANKS);
        Check.due("stays behind feed", wave.fault(), 5);
        Check.due("a number", wave.law(0), 0);
        Check.due("it had none", wave.fault(), -1);
        Check.law(wave, "#");
        Check.due("a fault at 0", wave.fault(), 0);
    }

    /** "NONE for others." */
    private static void countsOfNone() {
        for (int what : Twins.outside(0, 12)) {
            Twins.answer("count(" + what + ")", -1, Twins::busy, w -> w.count(what));
            Twins.answer("count(" + what + ")", -1, Twins::full, w -> w.count(what));
        }
        Check.due("count(5)", Twins.busy().count(5), 1);
        Check.due("count(5)", Twins.full().count(5), 0);
    }

    /** "In force from then on": the minutes that went by stay as they were. */
    private static void inForceFromThenOn() {
        GreatWave wave = Twins.bare();
        wave.shore(6, 0);
        wave.shake(0, 0, 65, 0);
        wave.pass(1);
        Check.due("watched", wave.told(0, 4), 1);
        Check.law(wave, "warn 50;");
        Check.due("watched yet", wave.told(0, 4), 1);
        wave.pass(1);
        Check.due("warned", wave.told(0, 4), 2);
        Check.due("from the next minute on", wave.told(0, 6), 1);
        Check.law(wave, "watch 9999; warn 9999;");
        wave.pass(1);
        Check.due("warned stays", wave.told(0, 4), 2);
    }
}
