import java.math.BigInteger;
import java.util.ArrayList;
import java.util.List;
import java.util.Random;

/**
 * Many calls against answers found another way: mostly the longest way round, every candidate
 * being looked at, in fractions without bounds. The seeds are fixed, so each run asks the same.
 */
public final class ModelTest {
    private static final int FAR_UNKNOWN = -1000000001, FAR_OUTSIDE = -1000000002;
    private static final int FAR_NO = -1000000005;
    private static final int HEADS = 40, CALLS = 480;

    private static final Due due = new Due("ModelTest");

    private final Random random;
    private final DividingHead head = new DividingHead();
    private final List<Integer> circles = new ArrayList<>();
    private final List<Integer> gears = new ArrayList<>();
    private final int[] errors = new int[8];
    private int wheel = 40;
    private int marks = 360;
    private int parts = 10;

    private ModelTest(long seed) {
        random = new Random(seed);
    }

    public static void main(String[] args) {
        for (int seed = 1; seed <= HEADS; seed++) {
            new ModelTest(seed).run();
        }
        due.end();
    }

    private void run() {
        int most = random.nextInt(9);
        for (int i = 0; i < most; i++) {
            askCircle(5 + random.nextInt(random.nextBoolean() ? 20 : 116));
        }
        int mostGears = random.nextInt(11);
        for (int i = 0; i < mostGears; i++) {
            askGear(random.nextBoolean() ? 12 + random.nextInt(109) : 12 * (1 + random.nextInt(10)));
        }
        for (int eighth = 0; eighth < 8; eighth++) {
            askError(eighth, random.nextInt(201) - 100);
        }
        for (int call = most + mostGears + 8; call < CALLS; call++) {
            ask(random.nextInt(25));
        }
    }

    private void ask(int which) {
        switch (which) {
            case 0 -> askWheel(around(10, 200));
            case 1 -> askVernier(around(2, 720), around(2, 60));
            case 2 -> askError(around(0, 7), around(-100, 100));
            case 3 -> askCircle(around(5, 120));
            case 4 -> askGear(around(12, 120));
            case 5, 6 -> askPlain(someParts(), around(0, 2));
            case 7, 8 -> askCompound(someParts(), around(0, 3));
            case 9, 10 -> askDifferential(someParts(), around(0, 6));
            case 11 -> askTrain(around(1, 1000000), around(1, 1000000), around(0, 3));
            case 12 -> askTrainOfGears(around(0, 3));
            case 13 -> askHole(someCircle(), someParts());
            case 14 -> askMiss(someCircle(), someParts(), around(0, 1));
            case 15 -> askWorst(someCircle(), someParts(), around(0, 2));
            case 16 -> askBest(random.nextInt(8) == 0 ? around(2, 1000) : around(2, 60));
            case 17 -> askSpoilt(someCircle(), around(1, 100000), around(0, 10000), around(0, 1));
            case 18 -> askExtreme(someCircle(), around(1, 100000), someCuts(), around(0, 1));
            case 19 -> askNear(around(1, 1000000), around(1, 1000000), around(1, 200), around(0, 1));
            case 20 -> askNear(around(1, 50), around(1, 50), around(1, 60), around(0, 1));
            case 21 -> askRead(around(0, 2));
            case 22 -> askTwo(around(-1000, 1000), around(0, 1));
            case 23 -> askNearFarOn();
            default -> askKept();
        }
    }

    /** Mostly within the bounds, often at them, sometimes beyond. */
    private int around(int least, int most) {
        switch (random.nextInt(24)) {
            case 0:
                return least;
            case 1:
                return most;
            case 2:
                return random.nextInt(4) == 0 ? least - 1 : most;
            case 3:
                return random.nextInt(4) == 0 ? most + 1 : least;
            default:
                return least + random.nextInt(most - least + 1);
        }
    }

    private int someParts() {
        return random.nextInt(3) == 0 ? around(2, 1000) : around(2, 120);
    }

    private int someCuts() {
        return random.nextInt(8) == 0 ? around(0, 1000) : around(0, 60);
    }

    private int someCircle() {
        return random.nextInt(20) == 0 ? around(-1, circles.size()) : random.nextInt(circles.size() + 1);
    }

    private static boolean out(int number, int least, int most) {
        return number < least || number > most;
    }

    private boolean noCircle(int circle) {
        return out(circle, 0, circles.size() - 1);
    }

    // ---- what is kept

    private void askWheel(int w) {
        boolean out = out(w, 10, 200);
        due.is("wheel(" + w + ")", head.wheel(w), out ? -2 : wheel);
        wheel = out ? wheel : w;
    }

    private void askCircle(int holes) {
        int want = circles.size();
        if (out(holes, 5, 120)) {
            want = -2;
        } else if (circles.size() == 8) {
            want = -4;
        } else if (circles.contains(holes)) {
            want = -5;
        } else {
            circles.add(holes);
        }
        due.is("circle(" + holes + ")", head.circle(holes), want);
    }

    private void askGear(int teeth) {
        int want = gears.size();
        if (out(teeth, 12, 120)) {
            want = -2;
        } else if (gears.size() == 10) {
            want = -4;
        } else {
            gears.add(teeth);
        }
        due.is("gear(" + teeth + ")", head.gear(teeth), want);
    }

    private void askError(int eighth, int v) {
        int want;
        if (out(eighth, 0, 7)) {
            want = -1001;
        } else if (out(v, -100, 100)) {
            want = -1002;
        } else {
            want = errors[eighth];
            errors[eighth] = v;
        }
        due.is("error(" + eighth + ", " + v + ")", head.error(eighth, v), want);
    }

    private void askVernier(int d, int v) {
        boolean out = out(d, 2, 720) || out(v, 2, 60);
        due.is("vernier(" + d + ", " + v + ")", head.vernier(d, v), out ? -2 : 1);
        marks = out ? marks : d;
        parts = out ? parts : v;
    }

    private void askKept() {
        int[] told = {wheel, circles.size(), gears.size(), marks, parts};
        int what = around(0, 4);
        due.is("told(" + what + ")", head.told(what), out(what, 0, 4) ? -2 : told[what]);
        int circle = around(0, 8);
        due.is("holes", head.holes(circle), noCircle(circle) ? -1 : circles.get(circle));
        int gear = around(0, 10);
        due.is("teeth", head.teeth(gear), out(gear, 0, gears.size() - 1) ? -1 : gears.get(gear));
    }

    // ---- parts that come out

    private int plainCircle(int n) {
        int best = -6;
        for (int holes = 120; holes >= 5; holes--) {
            int circle = circles.indexOf(holes);
            if (circle >= 0 && wheel * holes % n == 0) {
                best = circle;
            }
        }
        return best;
    }

    private void askPlain(int n, int what) {
        int want;
        if (out(n, 2, 1000) || out(what, 0, 2)) {
            want = -2;
        } else {
            want = plainCircle(n);
            if (want >= 0 && what > 0) {
                int holes = circles.get(want);
                int all = wheel * holes / n;
                want = what == 1 ? all / holes : all % holes;
            }
        }
        due.is("plain(" + n + ", " + what + ")", head.plain(n, what), want);
    }

    private int[] compoundOf(int n) {
        for (int h = 0; h < circles.size(); h++) {
            for (int k = h + 1; k < circles.size(); k++) {
                int first = circles.get(h);
                int second = circles.get(k);
                Fraction turns = new Fraction(wheel, n);
                int best = 0;
                for (int b = second; b >= -second; b--) {
                    Fraction a = turns.less(new Fraction(b, second)).times(first);
                    boolean does = b != 0 && a.isWhole() && !a.isNothing();
                    if (does && (best == 0 || Math.abs(b) < Math.abs(best))) {
                        best = b;
                    }
                }
                if (best != 0) {
                    Fraction a = turns.less(new Fraction(best, second)).times(first);
                    return new int[] {h, a.upper.intValueExact(), k, best};
                }
            }
        }
        return null;
    }

    private void askCompound(int n, int what) {
        int want = FAR_OUTSIDE;
        if (!out(n, 2, 1000) && !out(what, 0, 3)) {
            int[] all = compoundOf(n);
            want = all == null ? FAR_NO : all[what];
        }
        due.is("compound(" + n + ", " + what + ")", head.compound(n, what), want);
    }

    private int[] trainOf(long p, long q) {
        int count = gears.size();
        for (int a = 0; a < count; a++) {
            for (int b = 0; b < count; b++) {
                if (a != b && gears.get(a) * q == gears.get(b) * p) {
                    return new int[] {a, b, -6, -6};
                }
            }
        }
        for (int all = 0; all < 10000; all++) {
            int a = all / 1000;
            int b = all / 100 % 10;
            int c = all / 10 % 10;
            int d = all % 10;
            boolean unlike = a != b && a != c && a != d && b != c && b != d && c != d;
            if (unlike && Math.max(Math.max(a, b), Math.max(c, d)) < count
                    && gears.get(a) * gears.get(c) * q == gears.get(b) * gears.get(d) * p) {
                return new int[] {a, b, c, d};
            }
        }
        return null;
    }

    private void askTrain(int p, int q, int what) {
        int want = -2;
        if (!out(p, 1, 1000000) && !out(q, 1, 1000000) && !out(what, 0, 3)) {
            int[] all = trainOf(p, q);
            want = all == null ? -6 : all[what];
        }
        due.is("train(" + p + ", " + q + ", " + what + ")", head.train(p, q, what), want);
    }

    private void askTrainOfGears(int what) {
        int p = 1;
        int q = 1;
        for (int pair = random.nextInt(2); pair < 2 && !gears.isEmpty(); pair++) {
            p *= gears.get(random.nextInt(gears.size()));
            q *= gears.get(random.nextInt(gears.size()));
        }
        askTrain(p, q, what);
    }

    private int[] differentialOf(int n) {
        int[] best = null;
        int bestOff = 11;
        for (int m = 2; m <= 1000; m++) {
            int off = Math.abs(m - n);
            if (off > 0 && off < bestOff && plainCircle(m) >= 0) {
                int[] gearsOf = trainOf((long) off * wheel, m);
                if (gearsOf != null) {
                    bestOff = off;
                    best = new int[] {m, plainCircle(m), gearsOf[0], gearsOf[1], gearsOf[2],
                        gearsOf[3], m > n ? 1 : 0};
                }
            }
        }
        return best;
    }

    private void askDifferential(int n, int what) {
        int want = -2;
        if (!out(n, 2, 1000) && !out(what, 0, 6)) {
            int[] all = differentialOf(n);
            want = all == null ? -6 : all[what];
        }
        due.is("differential(" + n + ", " + what + ")", head.differential(n, what), want);
    }

    // ---- what misses

    private int holeOf(int circle, int n, int i) {
        Fraction place = new Fraction((long) i * wheel * circles.get(circle), n);
        int best = 0;
        int from = i * wheel * circles.get(circle) / n - 1;
        for (int hole = from; hole <= from + 3; hole++) {
            if (hole == from || place.gap(hole).compareTo(place.gap(best)) <= 0) {
                best = hole;
            }
        }
        return best;
    }

    private Fraction missOf(int circle, int n, int i) {
        return new Fraction(holeOf(circle, n, i), 1)
                .less(new Fraction((long) i * wheel * circles.get(circle), n));
    }

    private void askHole(int circle, int n) {
        int i = around(0, Math.max(n, 1));
        int want = -1;
        if (!noCircle(circle)) {
            want = out(n, 2, 1000) || out(i, 0, n) ? -2 : holeOf(circle, n, i);
        }
        due.is("hole(" + circle + ", " + n + ", " + i + ")", head.hole(circle, n, i), want);
    }

    private void askMiss(int circle, int n, int what) {
        int i = around(0, Math.max(n, 1));
        int want = FAR_UNKNOWN;
        if (!noCircle(circle)) {
            boolean out = out(n, 2, 1000) || out(i, 0, n) || out(what, 0, 1);
            want = out ? FAR_OUTSIDE : missOf(circle, n, i).term(what);
        }
        due.is("miss(" + circle + ", " + n + ", " + i + ", " + what + ")",
                head.miss(circle, n, i, what), want);
    }

    private Fraction worstOf(int circle, int n) {
        Fraction worst = new Fraction(0, 1);
        for (int i = 0; i <= n; i++) {
            Fraction size = missOf(circle, n, i).size();
            worst = size.compareTo(worst) > 0 ? size : worst;
        }
        return worst;
    }

    private void askWorst(int circle, int n, int what) {
        int want = -1;
        if (!noCircle(circle)) {
            want = -2;
            if (!out(n, 2, 1000) && !out(what, 0, 2)) {
                want = what == 2 ? exactOf(circle, n) : worstOf(circle, n).term(what);
            }
        }
        due.is("worst(" + circle + ", " + n + ", " + what + ")", head.worst(circle, n, what), want);
    }

    private int exactOf(int circle, int n) {
        int count = 0;
        for (int i = 0; i < n; i++) {
            count += missOf(circle, n, i).isNothing() ? 1 : 0;
        }
        return count;
    }

    private void askBest(int n) {
        int want = -2;
        if (!out(n, 2, 1000)) {
            want = circles.isEmpty() ? -3 : 0;
            Fraction best = null;
            for (int c = 0; c < circles.size(); c++) {
                Fraction worst = worstOf(c, n).by(circles.get(c));
                if (best == null || worst.compareTo(best) < 0) {
                    best = worst;
                    want = c;
                }
            }
        }
        due.is("best(" + n + ")", head.best(n), want);
    }

    private Fraction errorOf(int circle, int s, int i) {
        int holes = circles.get(circle);
        Fraction place = new Fraction((long) i * s % holes, holes).times(8);
        int eighth = 0;
        while (place.compareTo(new Fraction(eighth + 1, 1)) >= 0) {
            eighth++;
        }
        int from = errors[eighth];
        int to = eighth == 7 ? errors[0] : errors[eighth + 1];
        return new Fraction(from, 1).less(place.less(new Fraction(eighth, 1)).times(from - to));
    }

    private void askSpoilt(int circle, int s, int i, int what) {
        int want = FAR_UNKNOWN;
        if (!noCircle(circle)) {
            boolean out = out(s, 1, 100000) || out(i, 0, 10000) || out(what, 0, 1);
            want = out ? FAR_OUTSIDE : errorOf(circle, s, i).term(what);
        }
        due.is("spoilt(" + circle + ", " + s + ", " + i + ", " + what + ")",
                head.spoilt(circle, s, i, what), want);
    }

    private void askExtreme(int circle, int s, int n, int what) {
        int want = -1;
        if (!noCircle(circle)) {
            want = -2;
            if (!out(s, 1, 100000) && !out(n, 0, 1000) && !out(what, 0, 1)) {
                want = extremeOf(circle, s, n, what == 0 ? 1 : -1);
            }
        }
        due.is("extreme(" + circle + ", " + s + ", " + n + ", " + what + ")",
                head.extreme(circle, s, n, what), want);
    }

    private int extremeOf(int circle, int s, int n, int way) {
        int best = n;
        Fraction bestError = errorOf(circle, s, n);
        for (int i = n - 1; i >= 0; i--) {
            Fraction error = errorOf(circle, s, i);
            if (error.compareTo(bestError) * way >= 0) {
                best = i;
                bestError = error;
            }
        }
        return best;
    }

    // ---- shares, verniers

    private void askNear(int p, int q, int limit, int what) {
        int want = -2;
        if (!out(p, 1, 1000000) && !out(q, 1, 1000000) && !out(limit, 1, 10000) && !out(what, 0, 1)) {
            Fraction share = new Fraction(p, q);
            Fraction best = new Fraction(0, 1);
            for (int lower = 1; lower <= limit; lower++) {
                long from = (long) p * lower / q;
                for (long upper = Math.max(0, from - 1); upper <= from + 2; upper++) {
                    Fraction other = new Fraction(upper, lower);
                    best = share.less(other).size().compareTo(share.less(best).size()) < 0 ? other : best;
                }
            }
            want = best.term(what);
        }
        due.is("near(" + p + ", " + q + ", " + limit + ", " + what + ")",
                head.near(p, q, limit, what), want);
    }

    /** Limits too far on to look at every candidate: the two fractions next to the share are. */
    private void askNearFarOn() {
        int p = 1 + random.nextInt(random.nextBoolean() ? 1000000 : 1000);
        int q = 1 + random.nextInt(random.nextBoolean() ? 1000000 : 30000);
        int limit = Math.min(10000, Math.max(1, around(1, 10000)));
        Fraction want = nearestNeighbour(p, q, limit);
        String call = "near(" + p + ", " + q + ", " + limit + ", ";
        due.is(call + "0)", head.near(p, q, limit, 0), want.term(0));
        due.is(call + "1)", head.near(p, q, limit, 1), want.term(1));
    }

    /** Between two neighbours that enclose the share the next one by lower number is their mediant. */
    private static Fraction nearestNeighbour(long p, long q, int limit) {
        long[] below = {p / q, 1};
        long[] above = {p / q + 1, 1};
        while (below[0] * q != p * below[1] && below[1] + above[1] <= limit) {
            long[] between = {below[0] + above[0], below[1] + above[1]};
            if (between[0] * q <= p * between[1]) {
                below = between;
            } else {
                above = between;
            }
        }
        Fraction share = new Fraction(p, q);
        Fraction lesser = new Fraction(below[0], below[1]);
        Fraction greater = new Fraction(above[0], above[1]);
        int gaps = share.less(lesser).size().compareTo(share.less(greater).size());
        return gaps < 0 || gaps == 0 && below[1] <= above[1] ? lesser : greater;
    }

    private int mainOf(Fraction place) {
        Fraction all = place.times(marks);
        int main = 0;
        while (all.upper.compareTo(all.lower.multiply(BigInteger.valueOf(main + 1))) >= 0) {
            main++;
        }
        return main;
    }

    private int lineOf(Fraction place) {
        Fraction left = place.times(marks).less(new Fraction(mainOf(place), 1)).times(parts);
        int best = 0;
        for (int line = 1; line <= parts; line++) {
            best = left.gap(line).compareTo(left.gap(best)) < 0 ? line : best;
        }
        return best;
    }

    private void askRead(int what) {
        int q = random.nextBoolean() ? around(1, 1000000) : 2 * marks * parts;
        int p = around(0, Math.max(0, q - 1));
        int want = -2;
        if (!out(q, 1, 1000000) && !out(p, 0, q - 1) && !out(what, 0, 2)) {
            Fraction place = new Fraction(p, q);
            int main = mainOf(place);
            int line = lineOf(place);
            want = what == 0 ? main : what == 1 ? line : main * parts + line;
        }
        due.is("read(" + p + ", " + q + ", " + what + ")", head.read(p, q, what), want);
    }

    private void askTwo(int e, int what) {
        int q = random.nextBoolean() ? around(1, 1000000) : around(1, 50);
        int p = around(0, Math.max(0, q - 1));
        int want = FAR_OUTSIDE;
        if (!out(q, 1, 1000000) && !out(p, 0, q - 1) && !out(e, -1000, 1000) && !out(what, 0, 1)) {
            want = twoOf(new Fraction(p, q), new Fraction(e, 1000000)).term(what);
        }
        due.is("two(" + p + ", " + q + ", " + e + ", " + what + ") with " + marks + ", " + parts,
                head.two(p, q, e, what), want);
    }

    private Fraction twoOf(Fraction place, Fraction off) {
        Fraction first = place.less(off.times(-1)).intoCircle();
        Fraction second = place.less(new Fraction(-1, 2)).less(off).intoCircle();
        int one = mainOf(first) * parts + lineOf(first);
        int other = mainOf(second) * parts + lineOf(second);
        Fraction fourth = new Fraction(marks * parts, 4);
        return new Fraction(one + other, 2).less(one > other ? fourth.times(-1) : fourth);
    }

    /** A fraction in lowest terms, the lower number above 0. */
    private static final class Fraction implements Comparable<Fraction> {
        final BigInteger upper;
        final BigInteger lower;

        Fraction(long upper, long lower) {
            this(BigInteger.valueOf(upper), BigInteger.valueOf(lower));
        }

        Fraction(BigInteger upper, BigInteger lower) {
            BigInteger common = upper.gcd(lower);
            this.upper = upper.divide(common);
            this.lower = lower.divide(common);
        }

        Fraction less(Fraction other) {
            return new Fraction(upper.multiply(other.lower).subtract(other.upper.multiply(lower)),
                    lower.multiply(other.lower));
        }

        Fraction times(long factor) {
            return new Fraction(upper.multiply(BigInteger.valueOf(factor)), lower);
        }

        Fraction by(long divisor) {
            return new Fraction(upper, lower.multiply(BigInteger.valueOf(divisor)));
        }

        Fraction size() {
            return new Fraction(upper.abs(), lower);
        }

        Fraction gap(long whole) {
            return less(new Fraction(whole, 1)).size();
        }

        Fraction intoCircle() {
            return new Fraction(upper.mod(lower), lower);
        }

        boolean isWhole() {
            return lower.equals(BigInteger.ONE);
        }

        boolean isNothing() {
            return upper.signum() == 0;
        }

        int term(int what) {
            return (what == 0 ? upper : lower).intValueExact();
        }

        @Override
        public int compareTo(Fraction other) {
            return upper.multiply(other.lower).compareTo(other.upper.multiply(lower));
        }
    }
}
