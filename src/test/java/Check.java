/** Prints every answer that is not the one that is due, and ends with 1 if there was one. */
final class Check {
    private static int wrong = 0;
    private static int asked = 0;

    private Check() {
    }

    static void due(String call, long got, long want) {
        asked++;
        if (got != want) {
            wrong++;
            System.out.println(call + " answered " + got + ", due is " + want);
        }
    }

    static void yes(String call, boolean got) {
        due(call, got ? 1 : 0, 1);
    }

    static void no(String call, boolean got) {
        due(call, got ? 1 : 0, 0);
    }

    /** Feeds a text of Latin-1 signs, filled up with blanks to whole feeds, and makes its first bytes THE LAW. */
    static int law(GreatWave wave, String text) {
        StringBuilder whole = new StringBuilder(text);
        while (whole.length() % 20 != 0) {
            whole.append(' ');
        }
        for (int at = 0; at < whole.length(); at += 20) {
            wave.feed(number(whole, at), number(whole, at + 4), number(whole, at + 8),
                number(whole, at + 12), number(whole, at + 16));
        }
        return wave.law(text.length());
    }

    private static int number(StringBuilder text, int at) {
        return (text.charAt(at) << 24) | (text.charAt(at + 1) << 16)
            | (text.charAt(at + 2) << 8) | text.charAt(at + 3);
    }

    static void end() {
        System.out.println(wrong == 0 ? asked + " answers are as due" : wrong + " of " + asked + " answers are not as due");
        if (wrong != 0) {
            System.exit(1);
        }
    }
}
