import java.util.Arrays;

/**
 * A keeper of old star plates: lays plates upon one another, follows spots as tracks over all
 * plates, foretells their places and finds spots of which two digits were exchanged.
 */
public final class StarPlates {
    public static final int NONE = -1;

    private static final int MOST_PLATES = 5;
    private static final int MOST_SPOTS = 8;
    private static final int LAST_YEAR = 999;
    private static final int LAST_PLACE = 999;
    private static final int MOST_REACH = 50;
    private static final int FIRST_REACH = 3;
    private static final int LAST_FORETOLD_YEAR = 2000;
    private static final int TURNS = 4;
    private static final int MOST_STRETCH = 3;
    private static final int NO_PLACE = NONE - 9999;
    private static final int NO_FORETOLD = NONE - 99999;

    private final Plate[] plates;
    private final Lay[] lays;
    private final Fitter fitter;
    private final Tracks tracks;
    private boolean tracksFresh;
    private int plateCount;
    private int frame;
    private int reachNow;

    public StarPlates() {
        plates = new Plate[MOST_PLATES];
        for (int p = 0; p < MOST_PLATES; p++) {
            plates[p] = new Plate();
        }
        lays = new Lay[MOST_PLATES * MOST_PLATES];
        for (int n = 0; n < MOST_PLATES * MOST_PLATES; n++) {
            lays[n] = new Lay();
        }
        fitter = new Fitter();
        tracks = new Tracks();
        tracksFresh = false;
        plateCount = 0;
        frame = NONE;
        reachNow = FIRST_REACH;
    }

    public int plate(int year) {
        if (year < 0 || year > LAST_YEAR || plateCount >= MOST_PLATES || hasYear(year)) {
            return NONE;
        }
        int number = plateCount;
        plates[number].year = year;
        plateCount++;
        if (frame == NONE || year < plates[frame].year) {
            frame = number;
        }
        tracksFresh = false;
        return number;
    }

    public int spot(int p, int x, int y) {
        if (!isPlate(p) || !isOnPlate(x) || !isOnPlate(y)) {
            return NONE;
        }
        int number = plates[p].add(x, y);
        if (number != NONE) {
            forgetLaysOf(p);
        }
        return number;
    }

    public boolean wipe(int p, int i) {
        if (!isSpot(p, i)) {
            return false;
        }
        plates[p].remove(i);
        forgetLaysOf(p);
        return true;
    }

    public boolean reach(int r) {
        if (r < 0 || r > MOST_REACH) {
            return false;
        }
        reachNow = r;
        for (int p = 0; p < plateCount; p++) {
            forgetLaysOf(p);
        }
        return true;
    }

    public int look(int what) {
        switch (what) {
            case 0:
                return plateCount;
            case 1:
                return reachNow;
            case 2:
                return frame;
            case 3:
                return trackCount();
            case 4:
                freshenTracks();
                return tracks.stillOnes();
            case 5:
                freshenTracks();
                return tracks.misses;
            default:
                return NONE;
        }
    }

    public int of(int p, int what) {
        if (!isPlate(p)) {
            return NONE;
        }
        Plate held = plates[p];
        if (what == 0) {
            return held.year;
        }
        if (what == 1) {
            return held.count;
        }
        if (what < 10 || what >= 10 + 2 * held.count) {
            return NONE;
        }
        int i = (what - 10) / 2;
        return what % 2 == 0 ? held.xs[i] : held.ys[i];
    }

    public int lay(int a, int b, int what) {
        if (!isPlate(a) || !isPlate(b) || a == b) {
            return NO_PLACE;
        }
        Lay best = bestLay(a, b);
        if (best.count == 0) {
            return NO_PLACE;
        }
        switch (what) {
            case 0:
                return best.count;
            case 1:
                return best.sum;
            case 2:
                return best.turn;
            case 3:
                return best.stretch;
            case 4:
                return best.shiftX;
            case 5:
                return best.shiftY;
            default:
                return NO_PLACE;
        }
    }

    public int pair(int a, int b, int j) {
        if (!isPlate(a) || !isSpot(b, j) || a == b) {
            return NONE;
        }
        return bestLay(a, b).lowerOf[j];
    }

    public int track(int i, int p) {
        if (!isTrack(i) || !isPlate(p)) {
            return NONE;
        }
        freshenTracks();
        return tracks.spotOn[p * MOST_SPOTS + i];
    }

    public int place(int i, int p, int what) {
        if (!isTrack(i) || !isPlate(p) || what < 0 || what > 1) {
            return NO_PLACE;
        }
        freshenTracks();
        int at = p * MOST_SPOTS + i;
        if (tracks.spotOn[at] == NONE) {
            return NO_PLACE;
        }
        return what == 0 ? tracks.xOn[at] : tracks.yOn[at];
    }

    public int motion(int i, int what) {
        if (!isTrack(i) || what < 0 || what > 3) {
            return NO_PLACE;
        }
        freshenTracks();
        int below = tracks.years[i];
        if (below <= 0) {
            return NO_PLACE;
        }
        int above = what < 2 ? tracks.movedX[i] : tracks.movedY[i];
        int common = commonPart(Math.abs(above), below);
        return (what % 2 == 0 ? above : below) / common;
    }

    public int tell(int i, int what) {
        if (!isTrack(i) || what < 0 || what > 3) {
            return NONE;
        }
        freshenTracks();
        if (what == 2) {
            return tracks.spots[i];
        }
        if (!tracks.hasMotion(i)) {
            return NONE;
        }
        if (what == 0) {
            return tracks.isSteady(i, reachNow) ? 1 : 0;
        }
        if (what == 1) {
            return tracks.isStill(i) ? 1 : 0;
        }
        return tracks.firstTogetherWith(i);
    }

    public int foretell(int i, int year, int what) {
        if (!isTrack(i) || year < 0 || year > LAST_FORETOLD_YEAR || what < 0 || what > 1) {
            return NO_FORETOLD;
        }
        freshenTracks();
        int start = what == 0 ? tracks.startX[i] : tracks.startY[i];
        int moved = what == 0 ? tracks.movedX[i] : tracks.movedY[i];
        int years = tracks.years[i];
        if (years <= 0) {
            return start;
        }
        int passed = year - tracks.startYear;
        // half a step up and then down: of two equally near whole numbers the greater one
        return start + Math.floorDiv(2 * moved * passed + years, 2 * years);
    }

    public int slip(int p, int j, int what) {
        if (!isSpot(p, j) || p == frame || what < 0 || what > 2) {
            return NONE;
        }
        Lay best = bestLay(frame, p);
        if (best.count == 0 || best.lowerOf[j] != NONE) {
            return NONE;
        }
        int x = plates[p].xs[j];
        int y = plates[p].ys[j];
        for (int axis = 1; axis <= 2; axis++) {
            for (int digit = 0; digit <= 1; digit++) {
                int slippedX = axis == 1 ? exchanged(x, digit) : x;
                int slippedY = axis == 2 ? exchanged(y, digit) : y;
                int found = firstFreeNear(best, slippedX, slippedY);
                if (found != NONE) {
                    return what == 0 ? axis : what == 1 ? digit : found;
                }
            }
        }
        return NONE;
    }

    private boolean isPlate(int p) {
        return p >= 0 && p < plateCount;
    }

    private boolean isSpot(int p, int i) {
        return isPlate(p) && i >= 0 && i < plates[p].count;
    }

    private boolean isTrack(int i) {
        return i >= 0 && i < trackCount();
    }

    private int trackCount() {
        return frame == NONE ? 0 : plates[frame].count;
    }

    private boolean hasYear(int year) {
        for (int p = 0; p < plateCount; p++) {
            if (plates[p].year == year) {
                return true;
            }
        }
        return false;
    }

    private void forgetLaysOf(int p) {
        for (int other = 0; other < plateCount; other++) {
            lays[p * MOST_PLATES + other].fresh = false;
            lays[other * MOST_PLATES + p].fresh = false;
        }
        tracksFresh = false;
    }

    /** The BEST LAY of b on a, fitted only when something it hangs on has changed. */
    private Lay bestLay(int a, int b) {
        Lay best = lays[a * MOST_PLATES + b];
        if (!best.fresh) {
            fitter.fit(plates[a], plates[b], reachNow, best);
            best.fresh = true;
        }
        return best;
    }

    private void freshenTracks() {
        if (tracksFresh || frame == NONE) {
            return;
        }
        tracks.start(frame, plates[frame]);
        for (int p = 0; p < plateCount; p++) {
            if (p != frame) {
                tracks.join(p, plates[p], bestLay(frame, p));
            }
        }
        tracksFresh = true;
    }

    /** The first SPOT of the FRAME in no PAIR of this lay to which x, y comes near enough. */
    private int firstFreeNear(Lay best, int x, int y) {
        Plate lower = plates[frame];
        int comesX = best.bringX(x, y);
        int comesY = best.bringY(x, y);
        for (int i = 0; i < lower.count; i++) {
            if (best.upperOf[i] == NONE
                    && farOf(lower.xs[i] - comesX, lower.ys[i] - comesY) <= reachNow) {
                return i;
            }
        }
        return NONE;
    }

    private static boolean isOnPlate(int place) {
        return place >= 0 && place <= LAST_PLACE;
    }

    private static int farOf(int dx, int dy) {
        return Math.max(Math.abs(dx), Math.abs(dy));
    }

    private static int turnedX(int turn, int x, int y) {
        switch (turn) {
            case 0:
                return x;
            case 1:
                return -y;
            case 2:
                return -x;
            default:
                return y;
        }
    }

    private static int turnedY(int turn, int x, int y) {
        switch (turn) {
            case 0:
                return y;
            case 1:
                return x;
            case 2:
                return -y;
            default:
                return -x;
        }
    }

    /** A number of three digits with that digit (0 or 1) and the next one exchanged. */
    private static int exchanged(int number, int digit) {
        int unit = digit == 0 ? 10 : 1;
        int first = number / (10 * unit) % 10;
        int second = number / unit % 10;
        return number + (second - first) * 9 * unit;
    }

    /** The greatest common part of a and b, 1 at least, so that it may divide. */
    private static int commonPart(int a, int b) {
        int greater = a;
        int lesser = b;
        for (int step = 0; step < 64 && lesser != 0; step++) {
            int rest = greater % lesser;
            greater = lesser;
            lesser = rest;
        }
        return Math.max(1, greater);
    }

    private static final class Plate {
        int year;
        int count;
        final int[] xs = new int[MOST_SPOTS];
        final int[] ys = new int[MOST_SPOTS];

        int add(int x, int y) {
            if (count >= MOST_SPOTS || isTaken(x, y)) {
                return NONE;
            }
            xs[count] = x;
            ys[count] = y;
            count++;
            return count - 1;
        }

        void remove(int i) {
            for (int n = i; n + 1 < count; n++) {
                xs[n] = xs[n + 1];
                ys[n] = ys[n + 1];
            }
            count--;
        }

        private boolean isTaken(int x, int y) {
            for (int n = 0; n < count; n++) {
                if (xs[n] == x && ys[n] == y) {
                    return true;
                }
            }
            return false;
        }
    }

    /** How an upper PLATE is laid on a lower one; without PAIRS there is no lay. */
    private static final class Lay {
        boolean fresh;
        int count;
        int sum;
        int turn;
        int stretch;
        int shiftX;
        int shiftY;
        /** By the upper PLATE's SPOTS those of the lower one, and the other way round. */
        final int[] lowerOf = new int[MOST_SPOTS];
        final int[] upperOf = new int[MOST_SPOTS];

        void clear() {
            count = 0;
            sum = 0;
            Arrays.fill(lowerOf, NONE);
            Arrays.fill(upperOf, NONE);
        }

        boolean isBehind(int otherCount, int otherSum) {
            return otherCount > count || otherCount == count && otherSum < sum;
        }

        void put(int newTurn, int newStretch, int newShiftX, int newShiftY) {
            turn = newTurn;
            stretch = newStretch;
            shiftX = newShiftX;
            shiftY = newShiftY;
        }

        void takePairs(Matcher matcher) {
            clear();
            count = matcher.count;
            sum = matcher.sum;
            for (int j = 0; j < MOST_SPOTS; j++) {
                int i = matcher.chosen[j];
                lowerOf[j] = i;
                if (i != NONE) {
                    upperOf[i] = j;
                }
            }
        }

        int bringX(int x, int y) {
            return stretch * turnedX(turn, x, y) + shiftX;
        }

        int bringY(int x, int y) {
            return stretch * turnedY(turn, x, y) + shiftY;
        }
    }

    /**
     * Finds the BEST LAY. All shifts of one TURN and STRETCH are sorted by x, then y: so the first
     * of equally good ones is the one that is due, and the shifts near a given one (each of them a
     * SPOT of either PLATE near one another) stand close to it in the row.
     */
    private static final class Fitter {
        private static final int SHIFTS = MOST_SPOTS * MOST_SPOTS;
        /** Above every shift's size, which is at most 999 + 3 * 999. */
        private static final int BIAS = 4096;
        private static final int[] GAPS = {23, 10, 4, 1};

        private final long[] keys = new long[SHIFTS];
        private final int[] shiftX = new int[SHIFTS];
        private final int[] shiftY = new int[SHIFTS];
        private final int[] lowerSpot = new int[SHIFTS];
        private final int[] upperSpot = new int[SHIFTS];
        private final int[] fars = new int[SHIFTS];
        private final int[] nearest = new int[MOST_SPOTS];
        private final Matcher matcher = new Matcher();
        private int shifts;
        private int reach;
        private int mostPairs;
        private int leastSum;

        void fit(Plate lower, Plate upper, int newReach, Lay best) {
            best.clear();
            reach = newReach;
            for (int turn = 0; turn < TURNS; turn++) {
                for (int stretch = 1; stretch <= MOST_STRETCH; stretch++) {
                    listShifts(lower, upper, turn, stretch);
                    sortKeys();
                    readKeys();
                    tryShifts(lower.count, upper.count, turn, stretch, best);
                }
            }
        }

        private void listShifts(Plate lower, Plate upper, int turn, int stretch) {
            shifts = 0;
            for (int j = 0; j < upper.count; j++) {
                int x = stretch * turnedX(turn, upper.xs[j], upper.ys[j]);
                int y = stretch * turnedY(turn, upper.xs[j], upper.ys[j]);
                for (int i = 0; i < lower.count; i++) {
                    long byX = lower.xs[i] - x + BIAS;
                    long byY = lower.ys[i] - y + BIAS;
                    keys[shifts] = (byX * 2 * BIAS + byY) * SHIFTS + i * MOST_SPOTS + j;
                    shifts++;
                }
            }
        }

        private void sortKeys() {
            for (int gap : GAPS) {
                for (int n = gap; n < shifts; n++) {
                    long key = keys[n];
                    int at = n;
                    while (at >= gap && keys[at - gap] > key) {
                        keys[at] = keys[at - gap];
                        at -= gap;
                    }
                    keys[at] = key;
                }
            }
        }

        private void readKeys() {
            for (int n = 0; n < shifts; n++) {
                int ends = (int) (keys[n] % SHIFTS);
                long shift = keys[n] / SHIFTS;
                lowerSpot[n] = ends / MOST_SPOTS;
                upperSpot[n] = ends % MOST_SPOTS;
                shiftX[n] = (int) (shift / (2 * BIAS)) - BIAS;
                shiftY[n] = (int) (shift % (2 * BIAS)) - BIAS;
            }
        }

        private void tryShifts(int lowerCount, int upperCount, int turn, int stretch, Lay best) {
            int from = 0;
            for (int n = 0; n < shifts; n++) {
                while (from < n && shiftX[from] < shiftX[n] - reach) {
                    from++;
                }
                gauge(from, n);
                if (best.isBehind(mostPairs, leastSum)) {
                    measure(from, n);
                    matcher.match(fars, upperCount, lowerCount, reach);
                    if (best.isBehind(matcher.count, matcher.sum)) {
                        best.put(turn, stretch, shiftX[n], shiftY[n]);
                        best.takePairs(matcher);
                    }
                }
            }
        }

        /**
         * What PAIRS by shift n could reach at best, if SPOTS of the lower PLATE could be in
         * several: cheap, and enough to pass over most shifts without matching.
         */
        private void gauge(int from, int n) {
            int seen = 0;
            mostPairs = 0;
            leastSum = 0;
            for (int m = from; m < shifts && shiftX[m] <= shiftX[n] + reach; m++) {
                int far = farOf(shiftX[m] - shiftX[n], shiftY[m] - shiftY[n]);
                if (far > reach) {
                    continue;
                }
                int j = upperSpot[m];
                if ((seen >> j & 1) == 0) {
                    seen |= 1 << j;
                    mostPairs++;
                    leastSum += far;
                    nearest[j] = far;
                } else if (far < nearest[j]) {
                    leastSum += far - nearest[j];
                    nearest[j] = far;
                }
            }
        }

        /** By shift n FAR of each two SPOTS that are near; the others stay too far. */
        private void measure(int from, int n) {
            Arrays.fill(fars, MOST_REACH + 1);
            for (int m = from; m < shifts && shiftX[m] <= shiftX[n] + reach; m++) {
                fars[upperSpot[m] * MOST_SPOTS + lowerSpot[m]] =
                        farOf(shiftX[m] - shiftX[n], shiftY[m] - shiftY[n]);
            }
        }
    }

    /**
     * Finds the PAIRS of a lay as the cheapest full assignment of rows (SPOTS of the upper PLATE)
     * to columns (those of the lower one), by growing it row by row along cheapest ways. A cost
     * says all that counts, the weightiest first: no PAIR, FAR, and the order of the choices.
     */
    private static final class Matcher {
        private static final int SIZE = MOST_SPOTS + 1;
        /** More than the FAR of all PAIRS together. */
        private static final int LONE = 1000;
        /** 9 choices for each of 8 rows: 9 to the 8th. */
        private static final long ORDERS = 43046721L;
        /** Above every cost, and far enough below the greatest long for sums. */
        private static final long ENDLESS = 1L << 60;

        int count;
        int sum;
        final int[] chosen = new int[MOST_SPOTS];
        // row 0 and column 0 stand for "none yet", so rows and columns count from 1 here
        private final long[] cost = new long[SIZE * SIZE];
        private final long[] rowPrice = new long[SIZE];
        private final long[] columnPrice = new long[SIZE];
        private final long[] gap = new long[SIZE];
        private final int[] rowOf = new int[SIZE];
        private final int[] cameFrom = new int[SIZE];
        private final boolean[] passed = new boolean[SIZE];

        void match(int[] fars, int rows, int columns, int reach) {
            int width = Math.max(rows, columns);
            setCosts(fars, rows, width, columns, reach);
            Arrays.fill(rowPrice, 0);
            Arrays.fill(columnPrice, 0);
            Arrays.fill(rowOf, 0);
            for (int row = 1; row <= rows; row++) {
                settle(row, width);
            }
            readPairs(fars, columns, reach);
        }

        private void setCosts(int[] fars, int rows, int width, int columns, int reach) {
            long weight = ORDERS;
            for (int row = 1; row <= rows; row++) {
                weight /= 9;
                for (int column = 1; column <= width; column++) {
                    long price = LONE * ORDERS + MOST_SPOTS * weight;
                    if (column <= columns) {
                        int far = fars[(row - 1) * MOST_SPOTS + column - 1];
                        if (far <= reach) {
                            price = far * ORDERS + (column - 1) * weight;
                        }
                    }
                    cost[row * SIZE + column] = price;
                }
            }
        }

        /** Gives the row a column, moving settled rows along the cheapest way to a free one. */
        private void settle(int row, int width) {
            Arrays.fill(gap, ENDLESS);
            for (int column = 0; column <= width; column++) {
                passed[column] = false;
            }
            rowOf[0] = row;
            int at = 0;
            for (int step = 0; step <= width && rowOf[at] != 0; step++) {
                at = advance(at, width);
            }
            for (int step = 0; step <= width && at != 0; step++) {
                rowOf[at] = rowOf[cameFrom[at]];
                at = cameFrom[at];
            }
        }

        /** Passes this column and answers the next one that is cheapest to come to. */
        private int advance(int at, int width) {
            passed[at] = true;
            int row = rowOf[at];
            long least = ENDLESS;
            int next = 0;
            for (int column = 1; column <= width; column++) {
                if (passed[column]) {
                    continue;
                }
                long now = cost[row * SIZE + column] - rowPrice[row] - columnPrice[column];
                if (now < gap[column]) {
                    gap[column] = now;
                    cameFrom[column] = at;
                }
                if (gap[column] < least) {
                    least = gap[column];
                    next = column;
                }
            }
            for (int column = 0; column <= width; column++) {
                if (passed[column]) {
                    rowPrice[rowOf[column]] += least;
                    columnPrice[column] -= least;
                } else {
                    gap[column] -= least;
                }
            }
            return next;
        }

        private void readPairs(int[] fars, int columns, int reach) {
            Arrays.fill(chosen, NONE);
            count = 0;
            sum = 0;
            for (int column = 1; column <= columns; column++) {
                int row = rowOf[column];
                if (row == 0) {
                    continue;
                }
                int far = fars[(row - 1) * MOST_SPOTS + column - 1];
                if (far <= reach) {
                    chosen[row - 1] = column - 1;
                    count++;
                    sum += far;
                }
            }
        }
    }

    /** The TRACKS over all PLATES, one for each SPOT of the FRAME. */
    private static final class Tracks {
        int count;
        int misses;
        int startYear;
        final int[] startX = new int[MOST_SPOTS];
        final int[] startY = new int[MOST_SPOTS];
        final int[] spots = new int[MOST_SPOTS];
        /** From the first to the last SPOT; 0 years where there is no MOTION. */
        final int[] years = new int[MOST_SPOTS];
        final int[] movedX = new int[MOST_SPOTS];
        final int[] movedY = new int[MOST_SPOTS];
        /** By PLATE, those of a PLATE together. */
        final int[] spotOn = new int[MOST_PLATES * MOST_SPOTS];
        final int[] xOn = new int[MOST_PLATES * MOST_SPOTS];
        final int[] yOn = new int[MOST_PLATES * MOST_SPOTS];
        final int[] sinceStart = new int[MOST_PLATES];

        void start(int p, Plate frame) {
            count = frame.count;
            misses = 0;
            startYear = frame.year;
            sinceStart[p] = 0;
            Arrays.fill(spotOn, NONE);
            for (int i = 0; i < count; i++) {
                startX[i] = frame.xs[i];
                startY[i] = frame.ys[i];
                spots[i] = 0;
                years[i] = 0;
                movedX[i] = 0;
                movedY[i] = 0;
                enter(i, p, i, frame.xs[i], frame.ys[i]);
            }
        }

        void join(int p, Plate upper, Lay best) {
            sinceStart[p] = upper.year - startYear;
            for (int i = 0; i < count; i++) {
                int j = best.upperOf[i];
                if (j == NONE) {
                    misses++;
                } else {
                    int x = upper.xs[j];
                    int y = upper.ys[j];
                    enter(i, p, j, best.bringX(x, y), best.bringY(x, y));
                }
            }
        }

        private void enter(int i, int p, int j, int x, int y) {
            int at = p * MOST_SPOTS + i;
            spotOn[at] = j;
            xOn[at] = x;
            yOn[at] = y;
            spots[i]++;
            if (sinceStart[p] > years[i]) {
                years[i] = sinceStart[p];
                movedX[i] = x - startX[i];
                movedY[i] = y - startY[i];
            }
        }

        boolean hasMotion(int i) {
            return years[i] > 0;
        }

        boolean isStill(int i) {
            return hasMotion(i) && movedX[i] == 0 && movedY[i] == 0;
        }

        int stillOnes() {
            int found = 0;
            for (int i = 0; i < count; i++) {
                if (isStill(i)) {
                    found++;
                }
            }
            return found;
        }

        /** All is taken times the years of the MOTION, so that nothing need be rounded. */
        boolean isSteady(int i, int reach) {
            for (int p = 0; p < MOST_PLATES; p++) {
                int at = p * MOST_SPOTS + i;
                if (spotOn[at] == NONE) {
                    continue;
                }
                int offX = (xOn[at] - startX[i]) * years[i] - movedX[i] * sinceStart[p];
                int offY = (yOn[at] - startY[i]) * years[i] - movedY[i] * sinceStart[p];
                if (farOf(offX, offY) > reach * years[i]) {
                    return false;
                }
            }
            return true;
        }

        int firstTogetherWith(int i) {
            if (isStill(i)) {
                return NONE;
            }
            for (int k = 0; k < count; k++) {
                if (k != i && hasMotion(k)
                        && movedX[k] * years[i] == movedX[i] * years[k]
                        && movedY[k] * years[i] == movedY[i] * years[k]) {
                    return k;
                }
            }
            return NONE;
        }
    }
}
