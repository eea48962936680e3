/**
 * Two objects that had the same calls: a call that is refused to one of them must not tell them
 * apart, neither at once nor in what comes of the calls behind it.
 */
final class Twins {
    interface Start {
        GreatWave make();
    }

    interface Asking {
        long of(GreatWave wave);
    }

    interface Trying {
        boolean on(GreatWave wave);
    }

    private static final int FOLLOWS = 6;

    private Twins() {
    }

    /** The call answers false and does nothing, from whichever state. */
    static void refuse(String call, Start start, Trying trying) {
        answer(call, 0, start, wave -> trying.on(wave) ? 1 : 0);
    }

    /** The call answers so and does nothing, from whichever state. */
    static void answer(String call, long want, Start start, Asking asking) {
        for (int follow = 0; follow < FOLLOWS; follow++) {
            GreatWave touched = start.make();
            GreatWave other = start.make();
            Check.due(call, asking.of(touched), want);
            follow(follow, touched);
            follow(follow, other);
            same(call + ", then follow " + follow, touched, other);
        }
    }

    /** What shows in later calls alone: gauges by another WATCH, chances by sendings, rows by reads. */
    private static void follow(int which, GreatWave wave) {
        switch (which) {
            case 1:
                wave.pass(3);
                break;
            case 2:
                wave.law(wave.count(7));
                wave.pass(400);
                break;
            case 3:
                wave.shake(1, 1, 95, 20);
                wave.drill(0, !(wave.told(0, 7) == 1));
                wave.pass(1);
                break;
            case 4:
                wave.undo();
                wave.pass(20);
                break;
            case 5:
                readAll(wave);
                makeAll(wave);
                break;
            default:
                break;
        }
    }

    private static void readAll(GreatWave wave) {
        for (int buoy = 0; buoy < 2; buoy++) {
            for (int minute = 0; minute < 12; minute++) {
                wave.read(buoy, minute, 37 * minute - 100 * buoy, true);
            }
        }
    }

    private static void makeAll(GreatWave wave) {
        wave.shore(0, 0);
        wave.buoy(0, 0);
        wave.piece();
        wave.siren(0);
        wave.chance(0);
        wave.makes(0, 0, 1, 11);
        wave.lifts(0, 0, 13);
    }

    /** All that can be asked of an object, within the 512 calls that it is good for. */
    private static void same(String when, GreatWave touched, GreatWave other) {
        sameCounts(when, touched, other);
        for (int shore = 0; shore < other.count(1); shore++) {
            for (int what = 0; what <= 7; what++) {
                Check.due(when + ": told(" + shore + ", " + what + ")", touched.told(shore, what), other.told(shore, what));
            }
        }
        for (int buoy = 0; buoy < other.count(2); buoy++) {
            for (int minute = 0; minute < 12; minute += 3) {
                Check.due(when + ": tideAt(" + buoy + ", " + minute + ")", touched.tideAt(buoy, minute), other.tideAt(buoy, minute));
            }
        }
        for (int siren = 0; siren < other.count(4); siren++) {
            for (int what = 0; what <= 5; what++) {
                Check.due(when + ": sirenOf(" + siren + ", " + what + ")", touched.sirenOf(siren, what), other.sirenOf(siren, what));
            }
        }
        for (int y = 0; y < 5; y++) {
            for (int x = 0; x < 7; x++) {
                Check.due(when + ": travel to " + x + ", " + y, touched.travel(1, 1, x, y), other.travel(1, 1, x, y));
            }
        }
    }

    private static void sameCounts(String when, GreatWave touched, GreatWave other) {
        for (int what = 0; what <= 12; what++) {
            Check.due(when + ": count(" + what + ")", touched.count(what), other.count(what));
        }
        for (int piece = 0; piece < 4; piece++) {
            Check.due(when + ": weight(" + piece + ")", touched.weight(piece), other.weight(piece));
        }
        Check.due(when + ": rest()", touched.rest(), other.rest());
        Check.due(when + ": fault()", touched.fault(), other.fault());
    }

    /** A sea of 7 by 5 with nothing in it. */
    static GreatWave bare() {
        return new GreatWave(7, 5);
    }

    /**
     * A sea of 7 by 5 with some of everything: shore 0 is warned and drilled, shore 1 watched, two
     * messages wait at siren 0, NOW is 60; (3, 0) is land, and 20 bytes are on the tape.
     */
    static GreatWave busy() {
        GreatWave wave = new GreatWave(7, 5);
        wave.depth(3, 0, 3, 0, 0);
        wave.depth(4, 2, 5, 3, 6000);
        wave.shore(6, 0);
        wave.shore(6, 4);
        wave.buoy(2, 2);
        wave.buoy(4, 4);
        for (int piece = 0; piece < 2; piece++) {
            wave.piece();
            wave.row(piece, 0, 3);
            wave.makes(piece, 0, 0, 10 + piece);
            wave.makes(piece, 0, 2, 20 - piece);
            wave.lifts(piece, 0, 40);
            wave.lifts(piece, 1, 11);
        }
        wave.tide(0, 8, 10);
        wave.read(0, 0, 25, true);
        wave.read(0, 2, 57, true);
        wave.siren(0);
        wave.siren(1);
        wave.chance(0);
        wave.chance(100);
        wave.chance(900);
        Check.law(wave, "lead 200; again 4;");
        wave.shake(1, 1, 80, 10);
        wave.drill(0, true);
        wave.pass(60);
        wave.gauge(0, 50);
        wave.gauge(1, 20);
        Check.law(wave, "hold");
        // "hold 7; watch 15;   "
        wave.feed(0x686F6C64, 0x20373B20, 0x77617463, 0x68203135, 0x3B202020);
        return wave;
    }

    /** A sea of 7 by 5 where nothing more can come: all is full, and NOW is 5,000. */
    static GreatWave full() {
        GreatWave wave = new GreatWave(7, 5);
        for (int i = 0; i < 8; i++) {
            wave.shore(6, i % 5);
        }
        for (int i = 0; i < 6; i++) {
            wave.buoy(5, i % 5);
            wave.siren(i);
        }
        for (int i = 0; i < 4; i++) {
            wave.piece();
        }
        for (int i = 0; i < 30; i++) {
            wave.chance(33 * i);
        }
        for (int i = 0; i < 15; i++) {
            wave.feed(0x20202020, 0x20202020, 0x20202020, 0x20202020, 0x20202020);
        }
        for (int i = 0; i < 10; i++) {
            wave.pass(500);
        }
        return wave;
    }

    /** The first values outside of a range on either side, and the farthest ones. */
    static int[] outside(int least, int most) {
        return new int[] {least - 1, most + 1, Integer.MIN_VALUE, Integer.MAX_VALUE};
    }
}
