import java.util.Arrays;

/** A great wave watch; ../shared/DOC.md says by numbered promises what it does. */
public final class GreatWave {
    public static final int NONE = -1;

    private static final int MOST_SHORES = 8;
    private static final int MOST_BUOYS = 6;
    private static final int MOST_PIECES = 4;
    private static final int MOST_SIRENS = 6;
    private static final int BUOY_MINUTES = 12;
    private static final int DEEPEST = 8000;
    private static final int LAST_MINUTE = 5000;
    private static final int LONGEST_PASS = 500;
    private static final int HIGHEST_READ = 5000;
    private static final int HIGHEST_GAUGE = 5000;
    private static final int HIGHEST_MADE = 500;
    private static final int NO_TIDE_SUCH = -100000;
    private static final int NO_LAW_SUCH = -2;

    private static final int QUIET = 0;
    private static final int WATCHED = 1;
    private static final int WARNED = 2;
    private static final int LET_GO = 3;

    private static final int ARRIVAL = 0;
    private static final int EARLIEST = 1;
    private static final int LATEST = 2;
    private static final int LAST = 5;

    private static final int WATCH = 0;
    private static final int WARN = 1;
    private static final int LEAD = 2;
    private static final int HOLD = 3;
    private static final int AGAIN = 4;

    private final Sea sea;
    private final Shore[] shores = new Shore[MOST_SHORES];
    private int shoreCount;
    private final Buoy[] buoys = new Buoy[MOST_BUOYS];
    private int buoyCount;
    private final Piece[] pieces = new Piece[MOST_PIECES];
    private int pieceCount;
    private final Siren[] sirens = new Siren[MOST_SIRENS];
    private int sirenCount;
    private final Chances chances = new Chances();
    private final Law theLaw = new Law();
    private final Weigher weigher = new Weigher();
    private boolean weighed;
    private Shake held;
    private int now;

    public GreatWave(int wide, int high) {
        sea = new Sea(wide, high);
    }

    public boolean depth(int x, int y, int u, int v, int depth) {
        if (!sea.holds(x, y) || !sea.holds(u, v) || x > u || y > v) {
            return false;
        }
        if (depth < 0 || depth > DEEPEST) {
            return false;
        }
        if (depth == 0 && anythingWithin(x, y, u, v)) {
            return false;
        }
        sea.setDepths(x, y, u, v, depth);
        return true;
    }

    public int shore(int x, int y) {
        if (!sea.isOpen(x, y) || shoreCount >= MOST_SHORES) {
            return NONE;
        }
        shores[shoreCount] = new Shore(sea.squareAt(x, y));
        shoreCount++;
        return shoreCount - 1;
    }

    public int buoy(int x, int y) {
        if (!sea.isOpen(x, y) || buoyCount >= MOST_BUOYS) {
            return NONE;
        }
        buoys[buoyCount] = new Buoy(sea.squareAt(x, y));
        buoyCount++;
        return buoyCount - 1;
    }

    public int travel(int x, int y, int u, int v) {
        if (!sea.isOpen(x, y) || !sea.isOpen(u, v)) {
            return NONE;
        }
        return sea.leastMinutes(sea.squareAt(x, y), sea.squareAt(u, v));
    }

    public int piece() {
        if (pieceCount >= MOST_PIECES) {
            return NONE;
        }
        pieces[pieceCount] = new Piece();
        pieceCount++;
        weighed = false;
        return pieceCount - 1;
    }

    public boolean row(int piece, int buoy, int n) {
        if (!isPiece(piece) || !isBuoy(buoy) || n < 1 || n > BUOY_MINUTES) {
            return false;
        }
        pieces[piece].beginRow(buoy, n);
        weighed = false;
        return true;
    }

    public boolean makes(int piece, int buoy, int k, int v) {
        if (!isPiece(piece) || !isBuoy(buoy) || v < -HIGHEST_MADE || v > HIGHEST_MADE) {
            return false;
        }
        // A row that isn't there is 0 long, so no k is inside of it.
        if (k < 0 || k >= pieces[piece].rowLength(buoy)) {
            return false;
        }
        pieces[piece].setNumber(buoy, k, v);
        weighed = false;
        return true;
    }

    public boolean lifts(int piece, int shore, int v) {
        if (!isPiece(piece) || !isShore(shore) || v < 0 || v > HIGHEST_MADE) {
            return false;
        }
        pieces[piece].atShores[shore] = v;
        return true;
    }

    public boolean shake(int x, int y, int size, int doubt) {
        if (!sea.isOpen(x, y) || size < 50 || size > 95 || doubt < 0 || doubt > 50) {
            return false;
        }
        held = new Shake(sea.squareAt(x, y), now, size, doubt);
        for (int i = 0; i < shoreCount; i++) {
            if (shores[i].state == LET_GO) {
                shores[i].become(QUIET, now);
            }
        }
        return true;
    }

    public boolean read(int buoy, int minute, int v, boolean is) {
        if (!isBuoy(buoy) || !isBuoyMinute(minute)) {
            return false;
        }
        if (is && (v < -HIGHEST_READ || v > HIGHEST_READ)) {
            return false;
        }
        buoys[buoy].setNumber(minute, v, is);
        weighed = false;
        return true;
    }

    public boolean tide(int buoy, int a, int p) {
        if (!isBuoy(buoy) || a < 0 || a > 500 || p < 2 || p > 200) {
            return false;
        }
        buoys[buoy].setTide(a, p);
        weighed = false;
        return true;
    }

    public int tideAt(int buoy, int minute) {
        if (!isBuoy(buoy) || !isBuoyMinute(minute)) {
            return NO_TIDE_SUCH;
        }
        return buoys[buoy].tideIn(minute);
    }

    public int weight(int piece) {
        if (!isPiece(piece) || !hasWeights()) {
            return NONE;
        }
        return weigher.weights[piece];
    }

    public long rest() {
        return hasWeights() ? weigher.leftOver : NONE;
    }

    public int told(int shore, int what) {
        if (!isShore(shore)) {
            return NONE;
        }
        Shore asked = shores[shore];
        switch (what) {
            case ARRIVAL:
            case EARLIEST:
            case LATEST:
            case LAST:
                return waveAt(asked, what);
            case 3:
                return heightAt(shore);
            case 4:
                return asked.state;
            case 6:
                return asked.since;
            case 7:
                return asked.drilled ? 1 : 0;
            default:
                return NONE;
        }
    }

    public boolean gauge(int shore, int v) {
        if (!isShore(shore) || v < 0 || v > HIGHEST_GAUGE) {
            return false;
        }
        shores[shore].addGauge(v, now);
        return true;
    }

    public boolean undo() {
        if (held == null) {
            return false;
        }
        held = null;
        for (int i = 0; i < shoreCount; i++) {
            if (shores[i].isAlarmed()) {
                shores[i].become(LET_GO, now);
            }
        }
        return true;
    }

    public int pass(int n) {
        if (n < 1 || n > LONGEST_PASS || now + n > LAST_MINUTE) {
            return NONE;
        }
        foresee();
        for (int i = 0; i < n; i++) {
            moveStates();
            sendMessages();
            now++;
        }
        return now;
    }

    public int siren(int shore) {
        if (!isShore(shore) || sirenCount >= MOST_SIRENS) {
            return NONE;
        }
        sirens[sirenCount] = new Siren(shore);
        sirenCount++;
        return sirenCount - 1;
    }

    public boolean drill(int shore, boolean on) {
        if (!isShore(shore) || shores[shore].drilled == on) {
            return false;
        }
        shores[shore].drilled = on;
        if (on) {
            callSirens(shore, true);
        }
        return true;
    }

    public int chance(int v) {
        return chances.append(v);
    }

    public int sirenOf(int siren, int what) {
        if (siren < 0 || siren >= sirenCount) {
            return NONE;
        }
        Siren asked = sirens[siren];
        switch (what) {
            case 0:
                return asked.ofShore;
            case 1:
                return asked.waiting;
            case 2:
                return asked.sendings;
            case 3:
                return asked.hearings;
            case 4:
                return asked.earnestSoundings;
            case 5:
                return asked.drillSoundings;
            default:
                return NONE;
        }
    }

    public int feed(int a, int b, int c, int d, int e) {
        if (!theLaw.hasRoomFor(20)) {
            return NONE;
        }
        theLaw.append(a);
        theLaw.append(b);
        theLaw.append(c);
        theLaw.append(d);
        theLaw.append(e);
        return theLaw.fed;
    }

    public int law(int n) {
        if (n < 0 || n > theLaw.fed) {
            return NO_LAW_SUCH;
        }
        return theLaw.enact(n);
    }

    public int fault() {
        return theLaw.faultPlace;
    }

    public int count(int what) {
        switch (what) {
            case 0:
                return now;
            case 1:
                return shoreCount;
            case 2:
                return buoyCount;
            case 3:
                return pieceCount;
            case 4:
                return sirenCount;
            case 5:
                return held == null ? 0 : 1;
            case 6:
                return chances.taken;
            case 7:
                return theLaw.fed;
            case 8:
                return theLaw.inForce[WATCH];
            case 9:
                return theLaw.inForce[WARN];
            case 10:
                return theLaw.inForce[LEAD];
            case 11:
                return theLaw.inForce[HOLD];
            case 12:
                return theLaw.inForce[AGAIN];
            default:
                return NONE;
        }
    }

    private boolean isShore(int number) {
        return number >= 0 && number < shoreCount;
    }

    private boolean isBuoy(int number) {
        return number >= 0 && number < buoyCount;
    }

    private boolean isPiece(int number) {
        return number >= 0 && number < pieceCount;
    }

    private static boolean isBuoyMinute(int minute) {
        return minute >= 0 && minute < BUOY_MINUTES;
    }

    private boolean anythingWithin(int x, int y, int u, int v) {
        for (int i = 0; i < shoreCount; i++) {
            if (sea.isWithin(shores[i].square, x, y, u, v)) {
                return true;
            }
        }
        for (int i = 0; i < buoyCount; i++) {
            if (sea.isWithin(buoys[i].square, x, y, u, v)) {
                return true;
            }
        }
        return held != null && sea.isWithin(held.square, x, y, u, v);
    }

    private boolean hasWeights() {
        if (!weighed) {
            weigher.weigh(buoys, buoyCount, pieces, pieceCount);
            weighed = true;
        }
        return weigher.minutesKept > 0;
    }

    /** What told() says of the wave's coming to a SHORE; NONE without an ARRIVAL. */
    private int waveAt(Shore shore, int what) {
        if (held == null) {
            return NONE;
        }
        int travel = sea.leastMinutes(held.square, shore.square);
        if (travel == NONE) {
            return NONE;
        }
        int arrival = held.minute + travel;
        int doubt = travel * held.doubt / 100;
        switch (what) {
            case ARRIVAL:
                return arrival;
            case EARLIEST:
                return arrival - doubt;
            case LATEST:
                return arrival + doubt;
            default:
                return Math.max(arrival + doubt, shore.latestGaugeOf(theLaw.inForce[WATCH]));
        }
    }

    private int heightAt(int shore) {
        if (held == null) {
            return 0;
        }
        if (!hasWeights()) {
            return Math.max(0, 10 * (held.size - 60));
        }
        int height = 0;
        for (int i = 0; i < pieceCount; i++) {
            height += weigher.weights[i] * pieces[i].atShores[shore];
        }
        return height;
    }

    /** Nothing of this changes while minutes go by, so it is reckoned once for all of them. */
    private void foresee() {
        for (int i = 0; i < shoreCount; i++) {
            Shore shore = shores[i];
            shore.earliest = waveAt(shore, EARLIEST);
            shore.last = waveAt(shore, LAST);
            shore.height = heightAt(i);
        }
    }

    private void moveStates() {
        for (int i = 0; i < shoreCount; i++) {
            int next = nextState(shores[i]);
            if (next == shores[i].state) {
                continue;
            }
            shores[i].become(next, now);
            if (next == WARNED) {
                callSirens(i, false);
            }
        }
    }

    private int nextState(Shore shore) {
        if (shore.last == NONE) {
            return shore.state;
        }
        if (shore.isAlarmed() && now >= shore.last + theLaw.inForce[HOLD]) {
            return LET_GO;
        }
        if (shore.earliest - now > theLaw.inForce[LEAD]) {
            return shore.state;
        }
        if (shore.height >= theLaw.inForce[WARN] && shore.state < WARNED) {
            return WARNED;
        }
        if (shore.height >= theLaw.inForce[WATCH] && shore.state == QUIET) {
            return WATCHED;
        }
        return shore.state;
    }

    private void callSirens(int shore, boolean inDrill) {
        for (int i = 0; i < sirenCount; i++) {
            if (sirens[i].ofShore == shore) {
                sirens[i].queue(inDrill);
            }
        }
    }

    private void sendMessages() {
        for (int i = 0; i < sirenCount; i++) {
            sirens[i].sendDue(now, theLaw.inForce[AGAIN], chances);
        }
    }

    /**
     * The squares, numbered line by line, with their depths and costs, and the least minutes from
     * one of them to every other, kept till another start is asked for or a depth changes.
     */
    private static final class Sea {
        private static final int FAR = 1000000;

        final int wide;
        final int high;
        final int[] depths;
        final int[] costs;
        /** The square from which minutes are reckoned, or NONE if they are out of date. */
        int start = NONE;
        final int[] minutes;
        /** A heap of squares that are reached but not yet gone on from, the nearest first. */
        final int[] heap;
        final int[] places;
        int heapSize;

        Sea(int wide, int high) {
            this.wide = Math.max(4, Math.min(20, wide));
            this.high = Math.max(4, Math.min(12, high));
            int squares = this.wide * this.high;
            depths = new int[squares];
            costs = new int[squares];
            minutes = new int[squares];
            heap = new int[squares];
            places = new int[squares];
            setDepths(0, 0, this.wide - 1, this.high - 1, 1000);
        }

        boolean holds(int x, int y) {
            return x >= 0 && x < wide && y >= 0 && y < high;
        }

        boolean isOpen(int x, int y) {
            return holds(x, y) && depths[squareAt(x, y)] > 0;
        }

        int squareAt(int x, int y) {
            return y * wide + x;
        }

        boolean isWithin(int square, int x, int y, int u, int v) {
            int column = square % wide;
            int line = square / wide;
            return column >= x && column <= u && line >= y && line <= v;
        }

        void setDepths(int x, int y, int u, int v, int depth) {
            int cost = costOf(depth);
            for (int line = y; line <= v; line++) {
                for (int column = x; column <= u; column++) {
                    depths[squareAt(column, line)] = depth;
                    costs[squareAt(column, line)] = cost;
                }
            }
            start = NONE;
        }

        private static int costOf(int depth) {
            int root = 0;
            while (root < DEEPEST && (root + 1) * (root + 1) <= depth) {
                root++;
            }
            return 200 / (1 + root) + 1;
        }

        /** Both squares are open ones. */
        int leastMinutes(int from, int to) {
            if (from != start) {
                reckonFrom(from);
            }
            return minutes[to] == FAR ? NONE : minutes[to];
        }

        private void reckonFrom(int from) {
            start = from;
            Arrays.fill(minutes, FAR);
            Arrays.fill(places, NONE);
            heapSize = 0;
            reach(from, 0);
            // Each square leaves the heap once, as every step takes at least a minute.
            for (int turn = 0; turn < minutes.length && heapSize > 0; turn++) {
                goOnFrom(takeNearest());
            }
        }

        private void goOnFrom(int square) {
            int x = square % wide;
            int y = square / wide;
            int lastLine = Math.min(high - 1, y + 1);
            int lastColumn = Math.min(wide - 1, x + 1);
            for (int line = Math.max(0, y - 1); line <= lastLine; line++) {
                for (int column = Math.max(0, x - 1); column <= lastColumn; column++) {
                    int beside = squareAt(column, line);
                    // Those that aren't farther (the square itself, too) can't get nearer from here.
                    if (depths[beside] == 0 || minutes[beside] <= minutes[square]) {
                        continue;
                    }
                    boolean byCorner = line != y && column != x;
                    int there = minutes[square] + stepMinutes(square, beside, byCorner);
                    if (there < minutes[beside]) {
                        reach(beside, there);
                    }
                }
            }
        }

        private int stepMinutes(int from, int to, boolean byCorner) {
            int bySide = (costs[from] + costs[to]) / 2;
            return byCorner ? bySide * 7 / 5 : bySide;
        }

        private void reach(int square, int minute) {
            minutes[square] = minute;
            int at = places[square];
            if (at == NONE) {
                at = heapSize;
                heapSize++;
            }
            while (at > 0 && minutes[heap[(at - 1) / 2]] > minute) {
                put(heap[(at - 1) / 2], at);
                at = (at - 1) / 2;
            }
            put(square, at);
        }

        private int takeNearest() {
            int nearest = heap[0];
            heapSize--;
            if (heapSize > 0) {
                sink(heap[heapSize]);
            }
            return nearest;
        }

        private void sink(int square) {
            int at = 0;
            for (int below = 1; below < heapSize; below = 2 * at + 1) {
                if (below + 1 < heapSize && minutes[heap[below + 1]] < minutes[heap[below]]) {
                    below++;
                }
                if (minutes[heap[below]] >= minutes[square]) {
                    break;
                }
                put(heap[below], at);
                at = below;
            }
            put(square, at);
        }

        private void put(int square, int at) {
            heap[at] = square;
            places[square] = at;
        }
    }

    private static final class Shake {
        final int square;
        final int minute;
        final int size;
        final int doubt;

        Shake(int square, int minute, int size, int doubt) {
            this.square = square;
            this.minute = minute;
            this.size = size;
            this.doubt = doubt;
        }
    }

    private static final class Shore {
        final int square;
        int state = QUIET;
        int since = NONE;
        boolean drilled;
        Gauge latestGauge;
        int earliest = NONE;
        int last = NONE;
        int height;

        Shore(int square) {
            this.square = square;
        }

        boolean isAlarmed() {
            return state == WATCHED || state == WARNED;
        }

        void become(int next, int minute) {
            state = next;
            since = minute;
        }

        /** A later gauge as high hides the earlier ones, whatever WATCH comes to be. */
        void addGauge(int v, int minute) {
            Gauge before = latestGauge;
            while (before != null && before.height <= v) {
                before = before.before;
            }
            latestGauge = new Gauge(v, minute, before);
        }

        int latestGaugeOf(int watch) {
            for (Gauge gauge = latestGauge; gauge != null; gauge = gauge.before) {
                if (gauge.height >= watch) {
                    return gauge.minute;
                }
            }
            return NONE;
        }
    }

    private static final class Gauge {
        final int height;
        final int minute;
        final Gauge before;

        Gauge(int height, int minute, Gauge before) {
            this.height = height;
            this.minute = minute;
            this.before = before;
        }
    }

    private static final class Buoy {
        final int square;
        final int[] numbers = new int[BUOY_MINUTES];
        final boolean[] there = new boolean[BUOY_MINUTES];
        int tideHeight;
        /** 0 as long as there is no TIDE. */
        int tidePeriod;

        Buoy(int square) {
            this.square = square;
        }

        void setNumber(int minute, int v, boolean is) {
            numbers[minute] = is ? v : 0;
            there[minute] = is;
        }

        void setTide(int height, int period) {
            tideHeight = height;
            tidePeriod = period;
        }

        int tideIn(int minute) {
            if (tidePeriod == 0) {
                return 0;
            }
            int part = minute % tidePeriod;
            int slope = 4 * tideHeight * part / tidePeriod;
            return 2 * part < tidePeriod ? slope - tideHeight : 3 * tideHeight - slope;
        }
    }

    private static final class Piece {
        /** Behind a row's end the numbers are 0, so that what is too short counts 0. */
        final int[] numbers = new int[MOST_BUOYS * BUOY_MINUTES];
        final int[] lengths = new int[MOST_BUOYS];
        final int[] atShores = new int[MOST_SHORES];

        void beginRow(int buoy, int n) {
            lengths[buoy] = n;
            Arrays.fill(numbers, buoy * BUOY_MINUTES, (buoy + 1) * BUOY_MINUTES, 0);
        }

        int rowLength(int buoy) {
            return lengths[buoy];
        }

        void setNumber(int buoy, int k, int v) {
            numbers[buoy * BUOY_MINUTES + k] = v;
        }

        int numberAt(int buoy, int minute) {
            return numbers[buoy * BUOY_MINUTES + minute];
        }
    }

    /**
     * Finds the WEIGHTS. The sum of squares is a polynomial of the weights; its sums are made
     * once, so that trying a set of weights needs no walk over the minutes.
     */
    private static final class Weigher {
        private static final int MOST = 9;
        private static final int LAST_PIECE = MOST_PIECES - 1;

        final int[] weights = new int[MOST_PIECES];
        long leftOver;
        int minutesKept;
        /** Sum of squares of what was read. */
        long alone;
        /** Sums of what was read times what each piece makes. */
        final long[] pulls = new long[MOST_PIECES];
        /** Sums of what one piece makes times what another makes. */
        final long[] pairs = new long[MOST_PIECES * MOST_PIECES];
        /** The pulls that the pieces before one leave to it and those behind, a line for each. */
        final long[] left = new long[MOST_PIECES * MOST_PIECES];
        final int[] made = new int[MOST_PIECES];
        final int[] tried = new int[MOST_PIECES];

        void weigh(Buoy[] buoys, int buoyCount, Piece[] pieces, int pieceCount) {
            clear();
            for (int b = 0; b < buoyCount; b++) {
                for (int m = 0; m < BUOY_MINUTES; m++) {
                    if (!buoys[b].there[m]) {
                        continue;
                    }
                    for (int i = 0; i < pieceCount; i++) {
                        made[i] = pieces[i].numberAt(b, m);
                    }
                    addMinute(buoys[b].numbers[m] - buoys[b].tideIn(m));
                }
            }
            if (minutesKept > 0) {
                System.arraycopy(pulls, 0, left, 0, MOST_PIECES);
                tryAll();
            }
        }

        private void clear() {
            alone = 0;
            minutesKept = 0;
            leftOver = NONE;
            Arrays.fill(pulls, 0);
            Arrays.fill(pairs, 0);
            Arrays.fill(made, 0);
        }

        private void addMinute(int seen) {
            minutesKept++;
            alone += (long) seen * seen;
            for (int i = 0; i < MOST_PIECES; i++) {
                pulls[i] += (long) seen * made[i];
                for (int j = 0; j < MOST_PIECES; j++) {
                    pairs[i * MOST_PIECES + j] += (long) made[i] * made[j];
                }
            }
        }

        /** Tries in rising order, so that of several that are least the first one found stays. */
        private void tryAll() {
            for (int i = 0; i <= mostOf(0); i++) {
                long first = tryWeight(0, i, alone);
                for (int j = 0; j <= mostOf(1); j++) {
                    long second = tryWeight(1, j, first);
                    for (int k = 0; k <= mostOf(2); k++) {
                        tryBestLast(tryWeight(2, k, second));
                    }
                }
            }
        }

        /** A piece that makes nothing in the minutes kept has 0 as its least weight. */
        private int mostOf(int piece) {
            return pairs[piece * MOST_PIECES + piece] == 0 ? 0 : MOST;
        }

        /** The sum with the piece so weighed; the pulls that it leaves go to the next one's line. */
        private long tryWeight(int piece, int weight, long sum) {
            int line = piece * MOST_PIECES;
            tried[piece] = weight;
            for (int i = piece + 1; i < MOST_PIECES; i++) {
                left[line + MOST_PIECES + i] = left[line + i] - weight * pairs[line + i];
            }
            return sum + weight * (weight * pairs[line + piece] - 2 * left[line + piece]);
        }

        /** With the others fixed the sum falls, then rises: the first weight where it falls no more. */
        private void tryBestLast(long sum) {
            long own = pairs[LAST_PIECE * MOST_PIECES + LAST_PIECE];
            long pull = left[LAST_PIECE * MOST_PIECES + LAST_PIECE];
            int best = 0;
            while (best < MOST && own * (2 * best + 1) < 2 * pull) {
                best++;
            }
            long whole = sum + best * (best * own - 2 * pull);
            if (leftOver == NONE || whole < leftOver) {
                leftOver = whole;
                System.arraycopy(tried, 0, weights, 0, LAST_PIECE);
                weights[LAST_PIECE] = best;
            }
        }
    }

    private static final class Chances {
        private static final int MOST = 30;
        private static final int LOST_BELOW = 250;

        final int[] numbers = new int[MOST];
        int size;
        int taken;

        int append(int v) {
            if (v < 0 || v > 999 || size >= MOST) {
                return NONE;
            }
            numbers[size] = v;
            size++;
            return size;
        }

        /** Whether what is sent comes; without chances it does, and none is taken. */
        boolean letCome() {
            if (size == 0) {
                return true;
            }
            int number = numbers[taken % size];
            taken++;
            return number >= LOST_BELOW;
        }
    }

    private static final class Siren {
        /** An object has 512 calls, each of which brings a siren at most one message. */
        private static final int MOST_WAITING = 512;

        final int ofShore;
        Message first;
        Message last;
        int waiting;
        int sendings;
        int hearings;
        int earnestSoundings;
        int drillSoundings;

        Siren(int ofShore) {
            this.ofShore = ofShore;
        }

        void queue(boolean inDrill) {
            if (waiting >= MOST_WAITING) {
                return;
            }
            Message message = new Message(inDrill);
            if (last == null) {
                first = message;
            } else {
                last.next = message;
            }
            last = message;
            waiting++;
        }

        void sendDue(int now, int again, Chances chances) {
            Message before = null;
            for (Message message = first; message != null; message = message.next) {
                if (message.isDue(now, again) && send(message, now, chances)) {
                    unlink(message, before);
                } else {
                    before = message;
                }
            }
        }

        /** Tells whether the message is answered, and so waits no more. */
        private boolean send(Message message, int now, Chances chances) {
            message.sentAt = now;
            sendings++;
            if (!chances.letCome()) {
                return false;
            }
            hearings++;
            if (!message.heard) {
                message.heard = true;
                sound(message.inDrill);
            }
            return chances.letCome();
        }

        private void sound(boolean inDrill) {
            if (inDrill) {
                drillSoundings++;
            } else {
                earnestSoundings++;
            }
        }

        private void unlink(Message message, Message before) {
            if (before == null) {
                first = message.next;
            } else {
                before.next = message.next;
            }
            if (message.next == null) {
                last = before;
            }
            waiting--;
        }
    }

    private static final class Message {
        final boolean inDrill;
        int sentAt = NONE;
        boolean heard;
        Message next;

        Message(boolean inDrill) {
            this.inDrill = inDrill;
        }

        boolean isDue(int now, int again) {
            return sentAt == NONE || now - sentAt >= again;
        }
    }

    /** The tape, THE LAW in force, and the reader that goes token by token to an end or a FAULT. */
    private static final class Law {
        private static final int MOST_BYTES = 300;
        private static final int MOST_STATEMENTS = 10;
        private static final int MOST_DIGITS = 4;
        private static final int END = 0;
        private static final int WORD = 1;
        private static final int DIGITS = 2;
        private static final int SEMICOLON = 3;
        private static final int STRANGE = 4;
        private static final int[] AT_FIRST = {30, 100, 180, 120, 5};

        final byte[] tape = new byte[MOST_BYTES];
        int fed;
        final int[] inForce = AT_FIRST.clone();
        int faultPlace = NONE;
        final int[] numbers = new int[AT_FIRST.length];
        int statements;
        int length;
        int kind = END;
        int tokenStart;
        int tokenEnd;

        boolean hasRoomFor(int more) {
            return fed + more <= MOST_BYTES;
        }

        void append(int number) {
            for (int shift = 24; shift >= 0 && fed < MOST_BYTES; shift -= 8) {
                tape[fed] = (byte) (number >> shift);
                fed++;
            }
        }

        /** The first n bytes of the tape, of which there are as many, come into force or have a FAULT. */
        int enact(int n) {
            length = n;
            statements = 0;
            faultPlace = NONE;
            System.arraycopy(AT_FIRST, 0, numbers, 0, AT_FIRST.length);
            takeStatements();
            fed = 0;
            if (faultPlace != NONE) {
                return NONE;
            }
            System.arraycopy(numbers, 0, inForce, 0, AT_FIRST.length);
            return statements;
        }

        private void takeStatements() {
            tokenEnd = 0;
            nextToken();
            for (int turn = 0; turn < length && kind != END && faultPlace == NONE; turn++) {
                takeStatement();
            }
        }

        private void takeStatement() {
            int name = kind == WORD ? nameOfToken() : NONE;
            if (!go(name != NONE && statements < MOST_STATEMENTS)) {
                return;
            }
            int number = numberOfToken();
            if (!go(kind == DIGITS && tokenEnd - tokenStart <= MOST_DIGITS)) {
                return;
            }
            if (!go(kind == SEMICOLON)) {
                return;
            }
            numbers[name] = number;
            statements++;
        }

        /** Goes on behind a token that fits; at the end of the text tokenStart is its length. */
        private boolean go(boolean fits) {
            if (fits) {
                nextToken();
            } else {
                faultPlace = tokenStart;
            }
            return fits;
        }

        private void nextToken() {
            tokenStart = tokenEnd;
            while (tokenStart < length && (tape[tokenStart] == ' ' || tape[tokenStart] == '\n')) {
                tokenStart++;
            }
            tokenEnd = tokenStart;
            kind = tokenStart < length ? kindOf(tape[tokenStart]) : END;
            if (kind == WORD || kind == DIGITS) {
                while (tokenEnd < length && kindOf(tape[tokenEnd]) == kind) {
                    tokenEnd++;
                }
            } else if (kind != END) {
                tokenEnd++;
            }
        }

        private static int kindOf(byte sign) {
            if (sign >= 'a' && sign <= 'z') {
                return WORD;
            }
            if (sign >= '0' && sign <= '9') {
                return DIGITS;
            }
            return sign == ';' ? SEMICOLON : STRANGE;
        }

        private int nameOfToken() {
            if (isToken("watch")) {
                return WATCH;
            }
            if (isToken("warn")) {
                return WARN;
            }
            if (isToken("lead")) {
                return LEAD;
            }
            if (isToken("hold")) {
                return HOLD;
            }
            return isToken("again") ? AGAIN : NONE;
        }

        private boolean isToken(String word) {
            if (tokenEnd - tokenStart != word.length()) {
                return false;
            }
            for (int i = 0; i < word.length(); i++) {
                if (tape[tokenStart + i] != word.charAt(i)) {
                    return false;
                }
            }
            return true;
        }

        private int numberOfToken() {
            int number = 0;
            for (int i = tokenStart; i < tokenEnd && i < tokenStart + MOST_DIGITS; i++) {
                number = number * 10 + (tape[i] - '0');
            }
            return number;
        }
    }
}
