import java.util.Random;

/** Wild arguments, far more calls than the document lets be: no call may throw or fail to end. */
public final class EndureTest {
    private static final int CALLS = 60000;
    private static final int[] WILD = {Integer.MIN_VALUE, Integer.MIN_VALUE + 1, -100000, -5001, -501, -2, -1, 12, 13, 19,
        20, 21, 49, 50, 60, 95, 96, 200, 201, 300, 301, 500, 501, 999, 1000, 5000, 5001, 8000, 8001, 46341, 65536,
        Integer.MAX_VALUE - 1, Integer.MAX_VALUE};

    private final Random random;
    private final GreatWave wave;

    private EndureTest(int seed) {
        random = new Random(seed);
        wave = new GreatWave(wild(), wild());
    }

    public static void main(String[] args) {
        for (int seed = 0; seed < 4; seed++) {
            new EndureTest(seed).run();
        }
        manyDrills();
        Check.end();
    }

    private int wild() {
        return random.nextInt(3) == 0 ? WILD[random.nextInt(WILD.length)] : random.nextInt(10);
    }

    private void run() {
        for (int i = 0; i < CALLS; i++) {
            call(random.nextInt(27));
            int now = wave.count(0);
            Check.yes("NOW is a minute", now >= 0 && now <= 5000);
        }
    }

    private void call(int which) {
        switch (which) {
            case 0: wave.depth(wild(), wild(), wild(), wild(), wild()); break;
            case 1: wave.shore(wild(), wild()); break;
            case 2: wave.buoy(wild(), wild()); break;
            case 3: wave.travel(wild(), wild(), wild(), wild()); break;
            case 4: wave.piece(); break;
            case 5: wave.row(wild(), wild(), wild()); break;
            case 6: wave.makes(wild(), wild(), wild(), wild()); break;
            case 7: wave.lifts(wild(), wild(), wild()); break;
            case 8: wave.shake(wild(), wild(), wild(), wild()); break;
            case 9: wave.read(wild(), wild(), wild(), random.nextBoolean()); break;
            case 10: wave.tide(wild(), wild(), wild()); break;
            case 11: wave.tideAt(wild(), wild()); break;
            case 12: wave.weight(wild()); break;
            case 13: wave.rest(); break;
            case 14: wave.told(wild(), wild()); break;
            case 15: wave.gauge(wild(), wild()); break;
            case 16: wave.undo(); break;
            case 17: wave.pass(random.nextInt(50) == 0 ? wild() : random.nextInt(2)); break;
            case 18: wave.siren(wild()); break;
            case 19: wave.drill(wild(), random.nextBoolean()); break;
            case 20: wave.chance(wild()); break;
            case 21: wave.sirenOf(wild(), wild()); break;
            case 22: wave.feed(random.nextInt(), random.nextInt(), random.nextInt(), random.nextInt(), random.nextInt()); break;
            case 23: wave.law(wild()); break;
            case 24: wave.fault(); break;
            case 25: wave.count(wild()); break;
            default: wave.sirenOf(random.nextInt(6), random.nextInt(6)); break;
        }
    }

    /** What waits stays bounded, however many drills begin. */
    private static void manyDrills() {
        GreatWave wave = new GreatWave(4, 4);
        wave.shore(0, 0);
        wave.siren(0);
        wave.chance(0);
        for (int i = 0; i < 10000; i++) {
            wave.drill(0, true);
            wave.drill(0, false);
        }
        Check.yes("what waits is bounded", wave.sirenOf(0, 1) >= 250 && wave.sirenOf(0, 1) <= 1000);
    }
}
