/**
 * A dividing head: a worm and its wheel, plates with circles of holes, gears that turn the plate
 * along, and verniers by which a place on the circle is read.
 */
public final class DividingHead {
    public static final int NONE = -6, UNKNOWN = -1, OUTSIDE = -2, STATE = -3, FULL = -4, NO = -5;

    // Refusals of calls whose own answers may be small numbers below 0.
    private static final int WORM_UNKNOWN = -1001, WORM_OUTSIDE = -1002;
    private static final int FAR_UNKNOWN = -1000000001, FAR_OUTSIDE = -1000000002;
    private static final int FAR_NO = -1000000005;

    private static final int MOST_CIRCLES = 8, MOST_GEARS = 10, TRAIN_GEARS = 4, EIGHTHS = 8;
    private static final int LEAST_PARTS = 2, MOST_PARTS = 1000, FARTHEST_OFF = 10;
    private static final int MOST_STEP = 100000, MOST_SPOILT = 10000, MOST_EXTREME = 1000;
    private static final int MILLION = 1000000, MOST_LIMIT = 10000, MOST_OFF_MIDDLE = 1000;
    // Far above what Euclid's steps need for any two longs.
    private static final int MOST_EUCLID = 100;

    private final int[] circleHoles;
    private final int[] gearTeeth;
    private final int[] wormErrors;
    private final int[] trainGears;
    private int circleCount;
    private int gearCount;
    private int wheelTeeth;
    private int circleMarks;
    private int vernierParts;

    public DividingHead() {
        circleHoles = new int[MOST_CIRCLES];
        gearTeeth = new int[MOST_GEARS];
        wormErrors = new int[EIGHTHS];
        trainGears = new int[TRAIN_GEARS];
        wheelTeeth = 40;
        circleMarks = 360;
        vernierParts = 10;
    }

    // ---- 1 parts that come out

    public int wheel(int w) {
        if (isOutside(w, 10, 200)) {
            return OUTSIDE;
        }
        int before = wheelTeeth;
        wheelTeeth = w;
        return before;
    }

    public int circle(int holes) {
        if (isOutside(holes, 5, 120)) {
            return OUTSIDE;
        }
        if (circleCount >= MOST_CIRCLES) {
            return FULL;
        }
        if (hasCircleOf(holes)) {
            return NO;
        }
        circleHoles[circleCount] = holes;
        circleCount++;
        return circleCount - 1;
    }

    public int holes(int circle) {
        int holes = holesAt(circle);
        return holes == 0 ? UNKNOWN : holes;
    }

    public int gear(int teeth) {
        if (isOutside(teeth, 12, 120)) {
            return OUTSIDE;
        }
        if (gearCount >= MOST_GEARS) {
            return FULL;
        }
        gearTeeth[gearCount] = teeth;
        gearCount++;
        return gearCount - 1;
    }

    public int teeth(int gear) {
        return gear < 0 || gear >= gearCount ? UNKNOWN : gearTeeth[gear];
    }

    public int plain(int n, int what) {
        if (isNoNumberOfParts(n) || isOutside(what, 0, 2)) {
            return OUTSIDE;
        }
        int circle = plainCircle(n);
        if (what == 0 || circle == NONE) {
            return circle;
        }
        return what == 1 ? wheelTeeth / n : wheelTeeth % n * holesAt(circle) / n;
    }

    public int compound(int n, int what) {
        if (isNoNumberOfParts(n) || isOutside(what, 0, 3)) {
            return FAR_OUTSIDE;
        }
        for (int h = 0; h < circleCount; h++) {
            for (int k = h + 1; k < circleCount; k++) {
                int b = secondStep(circleHoles[h], circleHoles[k], n);
                if (b != 0) {
                    return compoundTerm(h, k, n, b, what);
                }
            }
        }
        return FAR_NO;
    }

    public int differential(int n, int what) {
        if (isNoNumberOfParts(n) || isOutside(what, 0, 6)) {
            return OUTSIDE;
        }
        int m = partsBeside(n);
        if (what == 0 || m == NONE) {
            return m;
        }
        if (what == 1) {
            return plainCircle(m);
        }
        if (what == 6) {
            return m > n ? 1 : 0;
        }
        return trainGears[what - 2];
    }

    public int train(int p, int q, int what) {
        if (isNoShare(p, q) || isOutside(what, 0, TRAIN_GEARS - 1)) {
            return OUTSIDE;
        }
        return findTrain(p, q) ? trainGears[what] : NONE;
    }

    // ---- 2 what misses

    public int hole(int circle, int n, int i) {
        int holes = holesAt(circle);
        if (holes == 0) {
            return UNKNOWN;
        }
        if (isNoNumberOfParts(n) || isOutside(i, 0, n)) {
            return OUTSIDE;
        }
        return nearestHole(holes, n, i);
    }

    public int miss(int circle, int n, int i, int what) {
        int holes = holesAt(circle);
        if (holes == 0) {
            return FAR_UNKNOWN;
        }
        if (isNoNumberOfParts(n) || isOutside(i, 0, n) || isOutside(what, 0, 1)) {
            return FAR_OUTSIDE;
        }
        return lowestTerm(missUpper(holes, n, i), n, what);
    }

    public int worst(int circle, int n, int what) {
        int holes = holesAt(circle);
        if (holes == 0) {
            return UNKNOWN;
        }
        if (isNoNumberOfParts(n) || isOutside(what, 0, 2)) {
            return OUTSIDE;
        }
        return what == 2 ? exactCuts(holes, n) : lowestTerm(worstUpper(holes, n), n, what);
    }

    public int best(int n) {
        if (isNoNumberOfParts(n)) {
            return OUTSIDE;
        }
        if (circleCount == 0) {
            return STATE;
        }
        int best = 0;
        int bestWorst = worstUpper(circleHoles[0], n);
        for (int c = 1; c < circleCount; c++) {
            int worst = worstUpper(circleHoles[c], n);
            // All of them are N-ths of a HOLE, so only the HOLES are to be made alike.
            if (worst * circleHoles[best] < bestWorst * circleHoles[c]) {
                best = c;
                bestWorst = worst;
            }
        }
        return best;
    }

    public int error(int eighth, int v) {
        if (isOutside(eighth, 0, EIGHTHS - 1)) {
            return WORM_UNKNOWN;
        }
        if (isOutside(v, -100, 100)) {
            return WORM_OUTSIDE;
        }
        int before = wormErrors[eighth];
        wormErrors[eighth] = v;
        return before;
    }

    public int spoilt(int circle, int s, int i, int what) {
        int holes = holesAt(circle);
        if (holes == 0) {
            return FAR_UNKNOWN;
        }
        if (isNoStep(s) || isOutside(i, 0, MOST_SPOILT) || isOutside(what, 0, 1)) {
            return FAR_OUTSIDE;
        }
        return lowestTerm(errorUpper(holes, s, i), holes, what);
    }

    public int extreme(int circle, int s, int n, int what) {
        int holes = holesAt(circle);
        if (holes == 0) {
            return UNKNOWN;
        }
        if (isNoStep(s) || isOutside(n, 0, MOST_EXTREME) || isOutside(what, 0, 1)) {
            return OUTSIDE;
        }
        int first = 0;
        int farthest = errorUpper(holes, s, 0);
        for (int i = 1; i <= n; i++) {
            int upper = errorUpper(holes, s, i);
            if (what == 0 ? upper > farthest : upper < farthest) {
                first = i;
                farthest = upper;
            }
        }
        return first;
    }

    // ---- 3 shares, verniers

    public int near(int p, int q, int limit, int what) {
        if (isNoShare(p, q) || isOutside(limit, 1, MOST_LIMIT) || isOutside(what, 0, 1)) {
            return OUTSIDE;
        }
        int lower = nearestLower(p, q, limit);
        return what == 1 ? lower : (int) nearestOrLesser((long) p * lower, q);
    }

    public int vernier(int d, int v) {
        if (isOutside(d, 2, 720) || isOutside(v, 2, 60)) {
            return OUTSIDE;
        }
        circleMarks = d;
        vernierParts = v;
        return 1;
    }

    public int read(int p, int q, int what) {
        if (isNoPlace(p, q) || isOutside(what, 0, 2)) {
            return OUTSIDE;
        }
        if (what == 0) {
            return (int) mainMark(p, q);
        }
        return (int) (what == 1 ? vernierLine(p, q) : readParts(p, q));
    }

    public int two(int p, int q, int e, int what) {
        if (isNoPlace(p, q) || isOutside(e, -MOST_OFF_MIDDLE, MOST_OFF_MIDDLE)
                || isOutside(what, 0, 1)) {
            return FAR_OUTSIDE;
        }
        long whole = (long) q * MILLION;
        long place = (long) p * MILLION;
        long off = (long) e * q;
        long first = readParts(Math.floorMod(place + off, whole), whole);
        long second = readParts(Math.floorMod(place + whole / 2 - off, whole), whole);
        long circleParts = (long) circleMarks * vernierParts;
        long fourths = 2 * (first + second);
        return lowestTerm(first > second ? fourths + circleParts : fourths - circleParts, 4, what);
    }

    public int told(int what) {
        switch (what) {
            case 0:
                return wheelTeeth;
            case 1:
                return circleCount;
            case 2:
                return gearCount;
            case 3:
                return circleMarks;
            case 4:
                return vernierParts;
            default:
                return OUTSIDE;
        }
    }

    // ---- what numbers are refused

    private static boolean isOutside(int number, int least, int most) {
        return number < least || number > most;
    }

    private static boolean isNoNumberOfParts(int n) {
        return isOutside(n, LEAST_PARTS, MOST_PARTS);
    }

    private static boolean isNoShare(int p, int q) {
        return isOutside(p, 1, MILLION) || isOutside(q, 1, MILLION);
    }

    private static boolean isNoPlace(int p, int q) {
        return isOutside(q, 1, MILLION) || isOutside(p, 0, q - 1);
    }

    private static boolean isNoStep(int s) {
        return isOutside(s, 1, MOST_STEP);
    }

    // ---- circles

    /** The HOLES of a CIRCLE; 0: there is no such one (so whoever sees no 0 may divide by it). */
    private int holesAt(int circle) {
        return circle < 0 || circle >= circleCount ? 0 : circleHoles[circle];
    }

    private boolean hasCircleOf(int holes) {
        for (int c = 0; c < circleCount; c++) {
            if (circleHoles[c] == holes) {
                return true;
            }
        }
        return false;
    }

    private int plainCircle(int n) {
        int fewest = NONE;
        for (int c = 0; c < circleCount; c++) {
            boolean does = exactQuotient(wheelTeeth * circleHoles[c], n) != 0;
            if (does && (fewest == NONE || circleHoles[c] < circleHoles[fewest])) {
                fewest = c;
            }
        }
        return fewest;
    }

    /** The b of the least size for circles of these holes; 0: there is none. */
    private int secondStep(int firstHoles, int secondHoles, int n) {
        for (int size = 1; size <= secondHoles; size++) {
            if (firstStep(firstHoles, secondHoles, n, size) != 0) {
                return size;
            }
            if (firstStep(firstHoles, secondHoles, n, -size) != 0) {
                return -size;
            }
        }
        return 0;
    }

    /** The a that goes with b; 0: there is none. */
    private int firstStep(int firstHoles, int secondHoles, int n, int b) {
        int left = wheelTeeth * secondHoles - b * n;
        return (int) exactQuotient(firstHoles * left, n * secondHoles);
    }

    private int compoundTerm(int h, int k, int n, int b, int what) {
        switch (what) {
            case 0:
                return h;
            case 1:
                return firstStep(circleHoles[h], circleHoles[k], n, b);
            case 2:
                return k;
            default:
                return b;
        }
    }

    // ---- gears

    /** The M by which N is cut, its gears being left in trainGears. */
    private int partsBeside(int n) {
        for (int off = 1; off <= FARTHEST_OFF; off++) {
            if (standsIn(n - off, n)) {
                return n - off;
            }
            if (standsIn(n + off, n)) {
                return n + off;
            }
        }
        return NONE;
    }

    private boolean standsIn(int m, int n) {
        return !isNoNumberOfParts(m) && plainCircle(m) != NONE
                && findTrain(Math.abs(m - n) * wheelTeeth, m);
    }

    private boolean findTrain(long p, long q) {
        return findTwoGears(p, q) || findFourGears(p, q);
    }

    private boolean findTwoGears(long p, long q) {
        for (int a = 0; a < gearCount; a++) {
            int b = gearWith(exactQuotient(gearTeeth[a] * q, p), a, a, a);
            if (b != NONE) {
                return keepTrain(a, b, NONE, NONE);
            }
        }
        return false;
    }

    private boolean findFourGears(long p, long q) {
        for (int a = 0; a < gearCount; a++) {
            for (int b = 0; b < gearCount; b++) {
                if (b != a && findSecondPair(a, b, p, q)) {
                    return true;
                }
            }
        }
        return false;
    }

    private boolean findSecondPair(int a, int b, long p, long q) {
        for (int c = 0; c < gearCount; c++) {
            if (c != a && c != b) {
                long upper = gearTeeth[a] * gearTeeth[c] * q;
                int d = gearWith(exactQuotient(upper, gearTeeth[b] * p), a, b, c);
                if (d != NONE) {
                    return keepTrain(a, b, c, d);
                }
            }
        }
        return false;
    }

    /** The first gear with these teeth that is none of the three taken ones. */
    private int gearWith(long teeth, int takenA, int takenB, int takenC) {
        for (int g = 0; g < gearCount; g++) {
            if (gearTeeth[g] == teeth && g != takenA && g != takenB && g != takenC) {
                return g;
            }
        }
        return NONE;
    }

    private boolean keepTrain(int a, int b, int c, int d) {
        trainGears[0] = a;
        trainGears[1] = b;
        trainGears[2] = c;
        trainGears[3] = d;
        return true;
    }

    // ---- cuts

    private int nearestHole(int holes, int n, int i) {
        return (int) nearestOrGreater(i * wheelTeeth * holes, n);
    }

    /** The MISS of a cut in N-ths of a HOLE. */
    private int missUpper(int holes, int n, int i) {
        return nearestHole(holes, n, i) * n - i * wheelTeeth * holes;
    }

    private int worstUpper(int holes, int n) {
        int worst = 0;
        for (int i = 0; i <= n; i++) {
            worst = Math.max(worst, Math.abs(missUpper(holes, n, i)));
        }
        return worst;
    }

    private int exactCuts(int holes, int n) {
        int count = 0;
        for (int i = 0; i < n; i++) {
            if (missUpper(holes, n, i) == 0) {
                count++;
            }
        }
        return count;
    }

    /** The worm's ERROR at cut i: the upper number above the circle's HOLES. */
    private int errorUpper(int holes, int s, int i) {
        if (holes < 1) {
            return 0;
        }
        int turned = (int) ((long) i * s % holes);
        int eighth = turned * EIGHTHS / holes;
        int beyond = turned * EIGHTHS % holes;
        // The remainder leads from the last eighth back to the first one.
        return wormErrors[eighth % EIGHTHS] * (holes - beyond)
                + wormErrors[(eighth + 1) % EIGHTHS] * beyond;
    }

    // ---- shares

    private static int nearestLower(int p, int q, int limit) {
        int nearest = 1;
        long nearestGap = gapUpper(p, q, 1);
        for (int lower = 2; lower <= limit && nearestGap > 0; lower++) {
            long gap = gapUpper(p, q, lower);
            if (gap * nearest < nearestGap * lower) {
                nearest = lower;
                nearestGap = gap;
            }
        }
        return nearest;
    }

    /** How far off the nearest fraction of this lower number is: the upper number above q lower. */
    private static long gapUpper(int p, int q, int lower) {
        long share = (long) p * lower;
        return Math.abs(nearestOrLesser(share, q) * q - share);
    }

    // ---- verniers: a place is told in parts of which the whole circle has so many

    private long mainMark(long place, long whole) {
        return whole < 1 ? 0 : place * circleMarks / whole;
    }

    private long vernierLine(long place, long whole) {
        long left = place * circleMarks - mainMark(place, whole) * whole;
        return nearestOrLesser(left * vernierParts, whole);
    }

    private long readParts(long place, long whole) {
        return mainMark(place, whole) * vernierParts + vernierLine(place, whole);
    }

    // ---- fractions

    /** The whole number nearest to upper by lower (neither below 0), of two the lesser. */
    private static long nearestOrLesser(long upper, long lower) {
        return lower < 1 ? 0 : (2 * upper + lower - 1) / (2 * lower);
    }

    /** The whole number nearest to upper by lower (neither below 0), of two the greater. */
    private static long nearestOrGreater(long upper, long lower) {
        return lower < 1 ? 0 : (2 * upper + lower) / (2 * lower);
    }

    /** Upper by lower, if that is a whole number other than 0; else 0. */
    private static long exactQuotient(long upper, long lower) {
        return lower < 1 || upper % lower != 0 ? 0 : upper / lower;
    }

    /** The upper (what = 0) or the lower number of a fraction brought to lowest terms. */
    private static int lowestTerm(long upper, long lower, int what) {
        long term = what == 0 ? upper : lower;
        long common = commonMeasure(Math.abs(upper), lower);
        return (int) (common < 1 ? term : term / common);
    }

    private static long commonMeasure(long one, long other) {
        for (int step = 0; step < MOST_EUCLID && other != 0; step++) {
            long rest = one % other;
            one = other;
            other = rest;
        }
        return one;
    }
}
