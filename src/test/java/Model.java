import java.util.ArrayList;
import java.util.Arrays;
import java.util.HashMap;
import java.util.List;
import java.util.Map;

/**
 * What the document says, done in the plainest way and with nothing kept that can be reckoned anew:
 * slow, with the whole Java library, and with other algorithms than the class itself.
 */
final class Model {
    private static final class Square {
        final int x;
        final int y;

        Square(int x, int y) {
            this.x = x;
            this.y = y;
        }
    }

    private static final class Mail {
        final boolean drill;
        int sent = -1;
        boolean heard;

        Mail(boolean drill) {
            this.drill = drill;
        }
    }

    private final int wide;
    private final int high;
    private final int[][] depth;
    private final List<Square> shores = new ArrayList<>();
    private final List<Square> buoys = new ArrayList<>();
    private int pieces;
    private final Map<String, int[]> rows = new HashMap<>();
    private final Map<String, Integer> lifts = new HashMap<>();
    private final Map<String, Integer> reads = new HashMap<>();
    private final Map<Integer, int[]> tides = new HashMap<>();
    private int[] shake;
    private int now;
    private final int[] state = new int[8];
    private final int[] since = {-1, -1, -1, -1, -1, -1, -1, -1};
    private final boolean[] drill = new boolean[8];
    private final List<int[]> gauges = new ArrayList<>();
    private final List<Integer> sirens = new ArrayList<>();
    private final List<List<Mail>> mails = new ArrayList<>();
    private final int[][] counted = new int[6][6];
    private final List<Integer> chances = new ArrayList<>();
    private int taken;
    private final StringBuilder tape = new StringBuilder();
    private int fault = -1;
    private Map<String, Integer> law = atFirst();

    Model(int w, int h) {
        wide = w < 4 ? 4 : w > 20 ? 20 : w;
        high = h < 4 ? 4 : h > 12 ? 12 : h;
        depth = new int[wide][high];
        for (int[] column : depth) {
            Arrays.fill(column, 1000);
        }
    }

    private static Map<String, Integer> atFirst() {
        return new HashMap<>(Map.of("watch", 30, "warn", 100, "lead", 180, "hold", 120, "again", 5));
    }

    private boolean in(int x, int y) {
        return x >= 0 && y >= 0 && x < wide && y < high;
    }

    private boolean open(int x, int y) {
        return in(x, y) && depth[x][y] != 0;
    }

    boolean depth(int x, int y, int u, int v, int d) {
        if (!in(x, y) || !in(u, v) || u < x || v < y || d < 0 || d > 8000) {
            return false;
        }
        List<Square> things = new ArrayList<>(shores);
        things.addAll(buoys);
        if (shake != null) {
            things.add(new Square(shake[0], shake[1]));
        }
        for (Square thing : things) {
            if (d == 0 && thing.x >= x && thing.x <= u && thing.y >= y && thing.y <= v) {
                return false;
            }
        }
        for (int i = x; i <= u; i++) {
            for (int j = y; j <= v; j++) {
                depth[i][j] = d;
            }
        }
        return true;
    }

    int shore(int x, int y) {
        if (!open(x, y) || shores.size() == 8) {
            return -1;
        }
        shores.add(new Square(x, y));
        return shores.size() - 1;
    }

    int buoy(int x, int y) {
        if (!open(x, y) || buoys.size() == 6) {
            return -1;
        }
        buoys.add(new Square(x, y));
        return buoys.size() - 1;
    }

    private int cost(int x, int y) {
        return 200 / (1 + (int) Math.floor(Math.sqrt(depth[x][y]))) + 1;
    }

    /** Sweeps over all squares till nothing gets less. */
    int travel(int x, int y, int u, int v) {
        if (!open(x, y) || !open(u, v)) {
            return -1;
        }
        int far = Integer.MAX_VALUE;
        int[][] least = new int[wide][high];
        for (int[] column : least) {
            Arrays.fill(column, far);
        }
        least[x][y] = 0;
        for (boolean less = true; less;) {
            less = false;
            for (int i = 0; i < wide; i++) {
                for (int j = 0; j < high; j++) {
                    for (int way = 0; way < 9; way++) {
                        int k = i + way % 3 - 1;
                        int l = j + way / 3 - 1;
                        if (least[i][j] == far || !open(k, l) || k == i && l == j) {
                            continue;
                        }
                        int step = (cost(i, j) + cost(k, l)) / 2;
                        if (k != i && l != j) {
                            step = step * 7 / 5;
                        }
                        if (least[i][j] + step < least[k][l]) {
                            least[k][l] = least[i][j] + step;
                            less = true;
                        }
                    }
                }
            }
        }
        return least[u][v] == far ? -1 : least[u][v];
    }

    int piece() {
        return pieces == 4 ? -1 : pieces++;
    }

    private boolean isPiece(int p) {
        return p >= 0 && p < pieces;
    }

    private boolean isBuoy(int b) {
        return b >= 0 && b < buoys.size();
    }

    private boolean isShore(int s) {
        return s >= 0 && s < shores.size();
    }

    boolean row(int piece, int buoy, int n) {
        if (!isPiece(piece) || !isBuoy(buoy) || n < 1 || n > 12) {
            return false;
        }
        rows.put(piece + "," + buoy, new int[n]);
        return true;
    }

    boolean makes(int piece, int buoy, int k, int v) {
        int[] row = rows.get(piece + "," + buoy);
        if (row == null || k < 0 || k >= row.length || v < -500 || v > 500) {
            return false;
        }
        row[k] = v;
        return true;
    }

    boolean lifts(int piece, int shore, int v) {
        if (!isPiece(piece) || !isShore(shore) || v < 0 || v > 500) {
            return false;
        }
        lifts.put(piece + "," + shore, v);
        return true;
    }

    boolean shake(int x, int y, int size, int doubt) {
        if (!open(x, y) || size < 50 || size > 95 || doubt < 0 || doubt > 50) {
            return false;
        }
        shake = new int[] {x, y, size, doubt, now};
        for (int s = 0; s < shores.size(); s++) {
            if (state[s] == 3) {
                become(s, 0);
            }
        }
        return true;
    }

    private void become(int shore, int next) {
        state[shore] = next;
        since[shore] = now;
    }

    boolean read(int buoy, int minute, int v, boolean is) {
        if (!isBuoy(buoy) || minute < 0 || minute > 11 || is && (v < -5000 || v > 5000)) {
            return false;
        }
        if (is) {
            reads.put(buoy + "," + minute, v);
        } else {
            reads.remove(buoy + "," + minute);
        }
        return true;
    }

    boolean tide(int buoy, int a, int p) {
        if (!isBuoy(buoy) || a < 0 || a > 500 || p < 2 || p > 200) {
            return false;
        }
        tides.put(buoy, new int[] {a, p});
        return true;
    }

    int tideAt(int buoy, int minute) {
        if (!isBuoy(buoy) || minute < 0 || minute > 11) {
            return -100000;
        }
        int[] tide = tides.get(buoy);
        if (tide == null) {
            return 0;
        }
        int a = tide[0];
        int p = tide[1];
        int r = minute % p;
        return 2 * r < p ? 4 * a * r / p - a : 3 * a - 4 * a * r / p;
    }

    private static final class Weighed {
        final int[] weights = new int[4];
        long rest = Long.MAX_VALUE;
    }

    /** Tries them all, with a walk over all minutes for each. */
    private Weighed weighed() {
        if (reads.isEmpty()) {
            return null;
        }
        List<int[]> minutes = new ArrayList<>();
        for (int b = 0; b < buoys.size(); b++) {
            for (int m = 0; m < 12; m++) {
                if (reads.containsKey(b + "," + m)) {
                    int[] line = new int[5];
                    for (int p = 0; p < pieces; p++) {
                        int[] row = rows.get(p + "," + b);
                        line[p] = row == null || m >= row.length ? 0 : row[m];
                    }
                    line[4] = reads.get(b + "," + m) - tideAt(b, m);
                    minutes.add(line);
                }
            }
        }
        Weighed best = new Weighed();
        int tries = (int) Math.round(Math.pow(10, pieces));
        for (int t = 0; t < tries; t++) {
            int[] weights = new int[4];
            int digits = t;
            for (int p = pieces - 1; p >= 0; p--) {
                weights[p] = digits % 10;
                digits /= 10;
            }
            long sum = 0;
            for (int[] line : minutes) {
                long left = line[4];
                for (int p = 0; p < pieces; p++) {
                    left -= weights[p] * line[p];
                }
                sum += left * left;
            }
            if (sum < best.rest) {
                best.rest = sum;
                System.arraycopy(weights, 0, best.weights, 0, 4);
            }
        }
        return best;
    }

    int weight(int piece) {
        if (!isPiece(piece)) {
            return -1;
        }
        Weighed w = weighed();
        return w == null ? -1 : w.weights[piece];
    }

    long rest() {
        Weighed w = weighed();
        return w == null ? -1 : w.rest;
    }

    private int height(int shore, Weighed w) {
        if (shake == null) {
            return 0;
        }
        if (w == null) {
            return shake[2] > 60 ? (shake[2] - 60) * 10 : 0;
        }
        int sum = 0;
        for (int p = 0; p < pieces; p++) {
            sum += w.weights[p] * lifts.getOrDefault(p + "," + shore, 0);
        }
        return sum;
    }

    /** Arrival, earliest, latest, last; or null. */
    private int[] comes(int shore) {
        if (shake == null) {
            return null;
        }
        int travel = travel(shake[0], shake[1], shores.get(shore).x, shores.get(shore).y);
        if (travel < 0) {
            return null;
        }
        int arrival = shake[4] + travel;
        int doubt = travel * shake[3] / 100;
        int last = arrival + doubt;
        for (int[] gauge : gauges) {
            if (gauge[0] == shore && gauge[1] >= law.get("watch") && gauge[2] > last) {
                last = gauge[2];
            }
        }
        return new int[] {arrival, arrival - doubt, arrival + doubt, last};
    }

    int told(int shore, int what) {
        if (!isShore(shore)) {
            return -1;
        }
        if (what >= 0 && what <= 2 || what == 5) {
            int[] comes = comes(shore);
            return comes == null ? -1 : comes[what == 5 ? 3 : what];
        }
        switch (what) {
            case 3: return height(shore, weighed());
            case 4: return state[shore];
            case 6: return since[shore];
            case 7: return drill[shore] ? 1 : 0;
            default: return -1;
        }
    }

    boolean gauge(int shore, int v) {
        if (!isShore(shore) || v < 0 || v > 5000) {
            return false;
        }
        gauges.add(new int[] {shore, v, now});
        return true;
    }

    boolean undo() {
        if (shake == null) {
            return false;
        }
        shake = null;
        for (int s = 0; s < shores.size(); s++) {
            if (state[s] == 1 || state[s] == 2) {
                become(s, 3);
            }
        }
        return true;
    }

    int pass(int n) {
        if (n < 1 || n > 500 || now > 5000 - n) {
            return -1;
        }
        Weighed w = weighed();
        int[][] comes = new int[8][];
        for (int s = 0; s < shores.size(); s++) {
            comes[s] = comes(s);
        }
        for (int i = 0; i < n; i++) {
            for (int s = 0; s < shores.size(); s++) {
                if (comes[s] != null) {
                    move(s, comes[s], height(s, w));
                }
            }
            for (int s = 0; s < sirens.size(); s++) {
                for (Mail mail : new ArrayList<>(mails.get(s))) {
                    if (mail.sent < 0 || now >= mail.sent + law.get("again")) {
                        send(s, mail);
                    }
                }
            }
            now++;
        }
        return now;
    }

    private void move(int s, int[] comes, int height) {
        boolean near = comes[1] - now <= law.get("lead");
        if ((state[s] == 1 || state[s] == 2) && now >= comes[3] + law.get("hold")) {
            become(s, 3);
        } else if (height >= law.get("warn") && near && state[s] < 2) {
            become(s, 2);
            post(s, false);
        } else if (height >= law.get("watch") && near && state[s] == 0) {
            become(s, 1);
        }
    }

    private void post(int shore, boolean inDrill) {
        for (int s = 0; s < sirens.size(); s++) {
            if (sirens.get(s) == shore) {
                mails.get(s).add(new Mail(inDrill));
            }
        }
    }

    private boolean comesThrough() {
        if (chances.isEmpty()) {
            return true;
        }
        return chances.get(taken++ % chances.size()) >= 250;
    }

    private void send(int s, Mail mail) {
        mail.sent = now;
        counted[s][2]++;
        if (comesThrough()) {
            counted[s][3]++;
            if (!mail.heard) {
                mail.heard = true;
                counted[s][mail.drill ? 5 : 4]++;
            }
            if (comesThrough()) {
                mails.get(s).remove(mail);
            }
        }
    }

    int siren(int shore) {
        if (!isShore(shore) || sirens.size() == 6) {
            return -1;
        }
        sirens.add(shore);
        mails.add(new ArrayList<>());
        return sirens.size() - 1;
    }

    boolean drill(int shore, boolean on) {
        if (!isShore(shore) || drill[shore] == on) {
            return false;
        }
        drill[shore] = on;
        if (on) {
            post(shore, true);
        }
        return true;
    }

    int chance(int v) {
        if (v < 0 || v > 999 || chances.size() == 30) {
            return -1;
        }
        chances.add(v);
        return chances.size();
    }

    int sirenOf(int siren, int what) {
        if (siren < 0 || siren >= sirens.size() || what < 0 || what > 5) {
            return -1;
        }
        return what == 0 ? sirens.get(siren) : what == 1 ? mails.get(siren).size() : counted[siren][what];
    }

    int feed(int a, int b, int c, int d, int e) {
        if (tape.length() + 20 > 300) {
            return -1;
        }
        for (int number : new int[] {a, b, c, d, e}) {
            tape.append((char) (number >>> 24)).append((char) (number >>> 16 & 255))
                .append((char) (number >>> 8 & 255)).append((char) (number & 255));
        }
        return tape.length();
    }

    /** Splits into tokens by a pattern first, then looks at them three by three. */
    int law(int n) {
        if (n < 0 || n > tape.length()) {
            return -2;
        }
        String text = tape.substring(0, n);
        tape.setLength(0);
        List<String> tokens = new ArrayList<>();
        List<Integer> places = new ArrayList<>();
        java.util.regex.Matcher matcher =
            java.util.regex.Pattern.compile("[ \n]+|[a-z]+|[0-9]+|(?s:.)").matcher(text);
        while (matcher.find()) {
            if (!matcher.group().matches("[ \n]+")) {
                tokens.add(matcher.group());
                places.add(matcher.start());
            }
        }
        Map<String, Integer> next = atFirst();
        fault = -1;
        for (int i = 0; i < tokens.size() && fault < 0; i++) {
            String token = tokens.get(i);
            boolean fits = i % 3 == 0 ? next.containsKey(token) && i < 30
                : i % 3 == 1 ? token.matches("[0-9]{1,4}") : token.equals(";");
            if (!fits) {
                fault = places.get(i);
            } else if (i % 3 == 2) {
                next.put(tokens.get(i - 2), Integer.parseInt(tokens.get(i - 1)));
            }
        }
        if (fault < 0 && tokens.size() % 3 != 0) {
            fault = n;
        }
        if (fault >= 0) {
            return -1;
        }
        law = next;
        return tokens.size() / 3;
    }

    int fault() {
        return fault;
    }

    int count(int what) {
        switch (what) {
            case 0: return now;
            case 1: return shores.size();
            case 2: return buoys.size();
            case 3: return pieces;
            case 4: return sirens.size();
            case 5: return shake == null ? 0 : 1;
            case 6: return taken;
            case 7: return tape.length();
            case 8: return law.get("watch");
            case 9: return law.get("warn");
            case 10: return law.get("lead");
            case 11: return law.get("hold");
            case 12: return law.get("again");
            default: return -1;
        }
    }
}
