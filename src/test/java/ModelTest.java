import java.util.Random;

/** Random runs of 512 calls, the same on the class and on the Model; every answer must be the same. */
public final class ModelTest {
    private static final int RUNS = 240;
    private static final int CALLS = 512;
    private static final String[] WORDS = {"watch", "warn", "lead", "hold", "again"};
    private static final int[] STRANGE =
        {-1, 1000, Integer.MAX_VALUE, Integer.MIN_VALUE, 12, 13, 20, 21, -2, 501, -501, 5001, -5001, 8001};

    private final Random random;
    private final int kind;
    private final GreatWave wave;
    private final Model model;
    private final int wide;
    private final int high;
    private final String name;

    private ModelTest(int seed) {
        random = new Random(seed);
        kind = seed % 4;
        wide = 4 + random.nextInt(17);
        high = 4 + random.nextInt(9);
        wave = new GreatWave(wide, high);
        model = new Model(wide, high);
        name = "run " + seed;
    }

    public static void main(String[] args) {
        for (int seed = 0; seed < RUNS; seed++) {
            new ModelTest(seed).run();
        }
        Check.end();
    }

    private void run() {
        for (int i = 0; i < 20; i++) {
            build(i);
        }
        for (int i = 20; i < CALLS; i++) {
            int theme = random.nextInt(10) < 6 ? kind : random.nextInt(4);
            switch (theme) {
                case 0: sea(); break;
                case 1: source(); break;
                case 2: watch(); break;
                default: sirens(); break;
            }
        }
    }

    private int to(int bound) {
        return random.nextInt(bound);
    }

    /** Mostly a number from least to most, now and then just outside or far off. */
    private int mostly(int least, int most) {
        int dice = to(60);
        if (dice == 0) {
            return least - 1;
        }
        if (dice == 1) {
            return most + 1;
        }
        if (dice == 2) {
            return STRANGE[to(STRANGE.length)];
        }
        if (dice == 3) {
            return least;
        }
        if (dice == 4) {
            return most;
        }
        return least + to(most - least + 1);
    }

    private int x() {
        return mostly(0, wide - 1);
    }

    private int y() {
        return mostly(0, high - 1);
    }

    private int piece() {
        return mostly(0, Math.max(0, model.count(3) - 1));
    }

    private int shore() {
        return mostly(0, Math.max(0, model.count(1) - 1));
    }

    private int buoy() {
        return mostly(0, Math.max(0, model.count(2) - 1));
    }

    private int siren() {
        return mostly(0, Math.max(0, model.count(4) - 1));
    }

    private void same(String call, long got, long want) {
        Check.due(name + ": " + call, got, want);
    }

    private void same(String call, boolean got, boolean want) {
        Check.due(name + ": " + call, got ? 1 : 0, want ? 1 : 0);
    }

    private void build(int i) {
        if (i < 6) {
            depth();
        } else if (i < 10) {
            newShore();
        } else if (i < 12) {
            newBuoy();
        } else if (i < 14) {
            // Four pieces are dear to the model, so only some runs have them.
            newPiece();
        } else if (i < 18) {
            newSiren();
        } else {
            chance();
        }
    }

    private void depth() {
        int a = x();
        int b = y();
        boolean small = to(3) > 0;
        int c = small ? a + to(3) : x();
        int d = small ? b + to(3) : y();
        int depth = to(3) == 0 ? 0 : to(3) == 0 ? mostly(0, 8000) : to(200);
        same("depth " + a + " " + b + " " + c + " " + d + " " + depth,
            wave.depth(a, b, c, d, depth), model.depth(a, b, c, d, depth));
    }

    private void newShore() {
        int a = x();
        int b = y();
        same("shore " + a + " " + b, wave.shore(a, b), model.shore(a, b));
    }

    private void newBuoy() {
        int a = x();
        int b = y();
        same("buoy " + a + " " + b, wave.buoy(a, b), model.buoy(a, b));
    }

    private void newPiece() {
        if (model.count(3) < 3 || name.endsWith("9")) {
            same("piece", wave.piece(), model.piece());
        }
    }

    private void newSiren() {
        int s = shore();
        same("siren " + s, wave.siren(s), model.siren(s));
    }

    private void chance() {
        int v = mostly(0, 999);
        if (to(20) == 0) {
            same("chance " + v, wave.chance(v), model.chance(v));
        } else {
            int near = to(2) == 0 ? 249 + to(2) : v;
            same("chance " + near, wave.chance(near), model.chance(near));
        }
    }

    private void sea() {
        switch (to(10)) {
            case 0: depth(); break;
            case 1:
                if (to(10) == 0) {
                    newShore();
                }
                break;
            case 2:
                if (to(10) == 0) {
                    newBuoy();
                }
                break;
            case 3: shake(); break;
            case 4:
            case 5: told(to(6)); break;
            default:
                int a = x();
                int b = y();
                int c = x();
                int d = y();
                same("travel " + a + " " + b + " " + c + " " + d, wave.travel(a, b, c, d), model.travel(a, b, c, d));
                break;
        }
    }

    private void shake() {
        int a = x();
        int b = y();
        int size = mostly(50, 95);
        int doubt = mostly(0, 50);
        same("shake " + a + " " + b + " " + size + " " + doubt,
            wave.shake(a, b, size, doubt), model.shake(a, b, size, doubt));
    }

    private void told(int what) {
        int s = shore();
        same("told " + s + " " + what, wave.told(s, what), model.told(s, what));
    }

    private void source() {
        int p = piece();
        int b = buoy();
        int v;
        switch (to(12)) {
            case 0:
                v = mostly(1, 12);
                same("row " + p + " " + b + " " + v, wave.row(p, b, v), model.row(p, b, v));
                break;
            case 1:
            case 2:
            case 3:
                int k = to(4) == 0 ? mostly(0, 11) : to(4);
                v = to(3) == 0 ? mostly(-500, 500) : 10 * (to(7) - 2);
                same("makes " + p + " " + b + " " + k + " " + v, wave.makes(p, b, k, v), model.makes(p, b, k, v));
                break;
            case 4:
            case 5:
            case 6:
                int m = to(4) == 0 ? mostly(0, 11) : to(4);
                v = to(3) == 0 ? mostly(-5000, 5000) : to(200);
                boolean is = to(4) > 0;
                same("read " + b + " " + m + " " + v + " " + is, wave.read(b, m, v, is), model.read(b, m, v, is));
                break;
            case 7:
                int a = to(2) == 0 ? mostly(0, 500) : to(30);
                int period = to(2) == 0 ? mostly(2, 200) : mostly(2, 14);
                same("tide " + b + " " + a + " " + period, wave.tide(b, a, period), model.tide(b, a, period));
                break;
            case 8:
                m = mostly(0, 11);
                same("tideAt " + b + " " + m, wave.tideAt(b, m), model.tideAt(b, m));
                break;
            case 9:
                same("weight " + p, wave.weight(p), model.weight(p));
                same("rest", wave.rest(), model.rest());
                break;
            case 10:
                int s = shore();
                v = to(3) == 0 ? mostly(0, 500) : to(40);
                same("lifts " + p + " " + s + " " + v, wave.lifts(p, s, v), model.lifts(p, s, v));
                break;
            default:
                if (to(4) == 0) {
                    newPiece();
                } else {
                    told(3);
                }
                break;
        }
    }

    private void watch() {
        switch (to(10)) {
            case 0:
                if (to(2) == 0) {
                    shake();
                }
                break;
            case 1:
            case 2:
                int s = shore();
                int v = to(4) == 0 ? mostly(0, 5000) : to(60);
                same("gauge " + s + " " + v, wave.gauge(s, v), model.gauge(s, v));
                break;
            case 3:
                if (to(5) == 0) {
                    same("undo", wave.undo(), model.undo());
                }
                break;
            case 4:
            case 5: pass(); break;
            case 6:
                if (to(2) == 0) {
                    law();
                }
                break;
            default: told(to(10) - 1); break;
        }
    }

    private void pass() {
        int n = to(30) == 0 ? mostly(1, 500) : to(4) == 0 ? 1 + to(60) : 1 + to(5);
        same("pass " + n, wave.pass(n), model.pass(n));
        for (int s = 0; s < model.count(1); s++) {
            same("state of " + s, wave.told(s, 4), model.told(s, 4));
            same("since of " + s, wave.told(s, 6), model.told(s, 6));
        }
    }

    private void law() {
        StringBuilder text = new StringBuilder();
        int statements = to(8) == 0 ? to(14) : to(5);
        for (int i = 0; i < statements; i++) {
            text.append(blank()).append(WORDS[to(5)]).append(blank());
            text.append(to(8) == 0 ? to(12000) : to(60)).append(blank()).append(';');
        }
        text.append(blank());
        if (to(3) == 0 && text.length() > 0) {
            int at = to(text.length());
            String signs = "aw;0 \n\t#9z:`{/\u00ff\u0000";
            if (to(2) == 0) {
                text.setCharAt(at, signs.charAt(to(signs.length())));
            } else {
                text.deleteCharAt(at);
            }
        }
        while (text.length() % 20 != 0) {
            text.append(to(20) == 0 ? 'x' : ' ');
        }
        feed(text);
        int most = model.count(7);
        int n = to(4) > 0 ? most : mostly(0, most);
        same("law " + n + " of " + text, wave.law(n), model.law(n));
        same("fault", wave.fault(), model.fault());
        for (int what = -1; what <= 13; what++) {
            same("count " + what, wave.count(what), model.count(what));
        }
    }

    private String blank() {
        return to(3) == 0 ? "" : to(3) == 0 ? "\n " : " ";
    }

    private void feed(StringBuilder text) {
        for (int at = 0; at < text.length(); at += 20) {
            int[] numbers = new int[5];
            for (int i = 0; i < 20; i++) {
                numbers[i / 4] = numbers[i / 4] << 8 | text.charAt(at + i);
            }
            same("feed", wave.feed(numbers[0], numbers[1], numbers[2], numbers[3], numbers[4]),
                model.feed(numbers[0], numbers[1], numbers[2], numbers[3], numbers[4]));
        }
    }

    private void sirens() {
        switch (to(8)) {
            case 0:
            case 1:
                int s = shore();
                boolean on = to(3) > 0;
                same("drill " + s + " " + on, wave.drill(s, on), model.drill(s, on));
                break;
            case 2:
                if (to(3) == 0) {
                    chance();
                }
                break;
            case 3:
                if (to(8) == 0) {
                    newSiren();
                }
                break;
            case 4: pass(); break;
            case 5:
                if (to(4) == 0) {
                    shake();
                }
                break;
            default:
                for (int what = -1; what <= 6; what++) {
                    int siren = siren();
                    same("sirenOf " + siren + " " + what, wave.sirenOf(siren, what), model.sirenOf(siren, what));
                }
                break;
        }
    }
}
