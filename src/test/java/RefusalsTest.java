import java.util.List;

/**
 * "Calls that are refused answer, the first of these that fits: UNKNOWN, OUTSIDE, STATE, FULL, NO.
 * They change nothing." Each bound of each number of each call, on new heads, on heads with some
 * circles and gears, with all of them, and with those of one kind alone.
 */
public final class RefusalsTest {
    private static final int UNKNOWN = -1, OUTSIDE = -2, STATE = -3, FULL = -4, NO = -5, NONE = -6;
    private static final int WORM_UNKNOWN = -1001, WORM_OUTSIDE = -1002;
    private static final int FAR_UNKNOWN = -1000000001, FAR_OUTSIDE = -1000000002;
    private static final int FAR_NO = -1000000005;
    private static final int LOW = Integer.MIN_VALUE, HIGH = Integer.MAX_VALUE, MILLION = 1000000;
    private static final int NEW = 0, SOME = 1, ALL = 2, NO_CIRCLES = 3, NO_GEARS = 4;
    private static final int[] ANY_HEAD = {NEW, SOME, ALL, NO_CIRCLES, NO_GEARS};
    private static final int[] WITH_CIRCLES = {SOME, ALL, NO_GEARS};
    private static final int[] CIRCLES_OF = {0, 3, 8, 0, 3}, GEARS_OF = {0, 4, 10, 4, 0};

    private static final Due due = new Due("RefusalsTest");

    private interface Call {
        int on(DividingHead head, int number);
    }

    private RefusalsTest() {
    }

    public static void main(String[] args) {
        setters();
        kept();
        plainParts();
        compoundParts();
        differentialParts();
        trains();
        nearestHoles();
        misses();
        worstMisses();
        bestCircles();
        errors();
        spoiltCuts();
        extremeCuts();
        nearShares();
        verniers();
        readPlaces();
        twoSides();
        unknownAheadOfOutside();
        outsideAheadOfTheRest();
        fullAheadOfNo();
        fullAndNoChangeNothing();
        questionsChangeNothing();
        due.end();
    }

    // ---- heads

    private static DividingHead made(int kind) {
        DividingHead head = new DividingHead();
        if (kind == NEW) {
            return head;
        }
        head.wheel(60);
        head.vernier(180, 30);
        for (int c = 0; c < CIRCLES_OF[kind]; c++) {
            head.circle(15 + 6 * c);
        }
        for (int g = 0; g < GEARS_OF[kind]; g++) {
            head.gear(24 + 12 * (g % 3));
        }
        for (int eighth = 0; eighth < 8; eighth++) {
            head.error(eighth, 25 * eighth - 90);
        }
        return head;
    }

    // ---- ways to ask

    private static void question(String call, int kind, int number, int want, Call asked) {
        DividingHead head = made(kind);
        List<Integer> before = State.of(head);
        String text = call + ", " + number + ", head " + kind;
        due.is(text, asked.on(head, number), want);
        due.is(text + " changes nothing", before.equals(State.of(head)) ? 1 : 0, 1);
    }

    private static void refused(String call, int kind, int number, int refusal, Call asked) {
        question(call, kind, number, refusal, asked);
    }

    private static void allowed(String call, int kind, int number, int refusal, Call asked) {
        boolean isRefused = asked.on(made(kind), number) == refusal;
        due.is(call + ", " + number + ", head " + kind + " is refused", isRefused ? 1 : 0, 0);
    }

    /** The least and the most are taken; one beyond, and what is far beyond, is refused. */
    private static void range(String call, int[] kinds, int least, int most, int refusal, Call asked) {
        for (int kind : kinds) {
            allowed(call, kind, least, refusal, asked);
            allowed(call, kind, most, refusal, asked);
            // 256 and 65536 more would be in range again for a number cut to a byte or a short.
            for (int number : new int[] {least - 1, most + 1, LOW, LOW + 1, HIGH, HIGH - 1,
                least - 256, least - 65536, most + 65536}) {
                refused(call, kind, number, refusal, asked);
            }
        }
    }

    private static void unknown(String call, boolean isGear, int refusal, Call asked) {
        for (int kind : ANY_HEAD) {
            int count = isGear ? GEARS_OF[kind] : CIRCLES_OF[kind];
            for (int number : new int[] {-1, count, count + 1, 10, LOW, HIGH, 256, 65536, -count}) {
                if (number < 0 || number >= count) {
                    refused(call, kind, number, refusal, asked);
                }
            }
            if (count > 0) {
                allowed(call, kind, 0, refusal, asked);
                allowed(call, kind, count - 1, refusal, asked);
            }
        }
    }

    // ---- 1 parts that come out

    private static void setters() {
        range("2 w from 10 to 200", ANY_HEAD, 10, 200, OUTSIDE, (h, w) -> h.wheel(w));
        range("3 HOLES from 5 to 120", ANY_HEAD, 5, 120, OUTSIDE, (h, holes) -> h.circle(holes));
        range("5 TEETH from 12 to 120", ANY_HEAD, 12, 120, OUTSIDE, (h, teeth) -> h.gear(teeth));
    }

    private static void kept() {
        unknown("4 holes", false, UNKNOWN, (h, circle) -> h.holes(circle));
        unknown("6 teeth", true, UNKNOWN, (h, gear) -> h.teeth(gear));
        range("22 what from 0 to 4", ANY_HEAD, 0, 4, OUTSIDE, (h, what) -> h.told(what));
    }

    private static void plainParts() {
        for (int what = 0; what <= 2; what++) {
            int asked = what;
            range("7 N for " + what, ANY_HEAD, 2, 1000, OUTSIDE, (h, n) -> h.plain(n, asked));
        }
        range("7 what, N 2", ANY_HEAD, 0, 2, OUTSIDE, (h, what) -> h.plain(2, what));
        range("7 what, N 1000", ANY_HEAD, 0, 2, OUTSIDE, (h, what) -> h.plain(1000, what));
    }

    private static void compoundParts() {
        for (int what = 0; what <= 3; what++) {
            int asked = what;
            range("8 N for " + what, ANY_HEAD, 2, 1000, FAR_OUTSIDE, (h, n) -> h.compound(n, asked));
        }
        range("8 what, N 2", ANY_HEAD, 0, 3, FAR_OUTSIDE, (h, what) -> h.compound(2, what));
        range("8 what, N 1000", ANY_HEAD, 0, 3, FAR_OUTSIDE, (h, what) -> h.compound(1000, what));
    }

    private static void differentialParts() {
        for (int what = 0; what <= 6; what++) {
            int asked = what;
            range("9 N for " + what, ANY_HEAD, 2, 1000, OUTSIDE, (h, n) -> h.differential(n, asked));
        }
        range("9 what, N 2", ANY_HEAD, 0, 6, OUTSIDE, (h, what) -> h.differential(2, what));
        range("9 what, N 1000", ANY_HEAD, 0, 6, OUTSIDE, (h, what) -> h.differential(1000, what));
    }

    private static void trains() {
        for (int what = 0; what <= 3; what++) {
            int asked = what;
            range("10 p for " + what, ANY_HEAD, 1, MILLION, OUTSIDE, (h, p) -> h.train(p, 3, asked));
            range("10 q for " + what, ANY_HEAD, 1, MILLION, OUTSIDE, (h, q) -> h.train(3, q, asked));
        }
        range("10 p, q greatest", ANY_HEAD, 1, MILLION, OUTSIDE, (h, p) -> h.train(p, MILLION, 0));
        range("10 q, p greatest", ANY_HEAD, 1, MILLION, OUTSIDE, (h, q) -> h.train(MILLION, q, 0));
        range("10 what", ANY_HEAD, 0, 3, OUTSIDE, (h, what) -> h.train(1, 1, what));
    }

    // ---- 2 what misses

    private static void nearestHoles() {
        unknown("11 circle", false, UNKNOWN, (h, circle) -> h.hole(circle, 9, 1));
        range("11 N, i 0", WITH_CIRCLES, 2, 1000, OUTSIDE, (h, n) -> h.hole(0, n, 0));
        range("11 N, i 2", WITH_CIRCLES, 2, 1000, OUTSIDE, (h, n) -> h.hole(0, n, 2));
        for (int parts : new int[] {2, 9, 1000}) {
            range("11 i, N " + parts, WITH_CIRCLES, 0, parts, OUTSIDE, (h, i) -> h.hole(0, parts, i));
        }
    }

    private static void misses() {
        for (int what = 0; what <= 1; what++) {
            int asked = what;
            unknown("12 circle", false, FAR_UNKNOWN, (h, circle) -> h.miss(circle, 9, 1, asked));
            range("12 N, i 0", WITH_CIRCLES, 2, 1000, FAR_OUTSIDE, (h, n) -> h.miss(0, n, 0, asked));
            range("12 N, i 2", WITH_CIRCLES, 2, 1000, FAR_OUTSIDE, (h, n) -> h.miss(0, n, 2, asked));
            for (int parts : new int[] {2, 9, 1000}) {
                range("12 i, N " + parts, WITH_CIRCLES, 0, parts, FAR_OUTSIDE,
                        (h, i) -> h.miss(0, parts, i, asked));
            }
        }
        range("12 what", WITH_CIRCLES, 0, 1, FAR_OUTSIDE, (h, what) -> h.miss(0, 9, 1, what));
    }

    private static void worstMisses() {
        for (int what = 0; what <= 2; what++) {
            int asked = what;
            unknown("13 circle", false, UNKNOWN, (h, circle) -> h.worst(circle, 9, asked));
            range("13 N", WITH_CIRCLES, 2, 1000, OUTSIDE, (h, n) -> h.worst(0, n, asked));
        }
        range("13 what", WITH_CIRCLES, 0, 2, OUTSIDE, (h, what) -> h.worst(0, 9, what));
    }

    private static void bestCircles() {
        range("14 N", ANY_HEAD, 2, 1000, OUTSIDE, (h, n) -> h.best(n));
        for (int kind : new int[] {NEW, NO_CIRCLES}) {
            refused("14 there are none", kind, 2, STATE, (h, n) -> h.best(n));
            refused("14 there are none", kind, 1000, STATE, (h, n) -> h.best(n));
        }
        for (int kind : WITH_CIRCLES) {
            allowed("14 there are some", kind, 2, STATE, (h, n) -> h.best(n));
        }
    }

    private static void errors() {
        range("15 eighth", ANY_HEAD, 0, 7, WORM_UNKNOWN, (h, eighth) -> h.error(eighth, 1));
        for (int eighth = 0; eighth <= 7; eighth++) {
            int asked = eighth;
            range("15 v", ANY_HEAD, -100, 100, WORM_OUTSIDE, (h, v) -> h.error(asked, v));
        }
    }

    private static void spoiltCuts() {
        for (int what = 0; what <= 1; what++) {
            int asked = what;
            unknown("16 circle", false, FAR_UNKNOWN, (h, circle) -> h.spoilt(circle, 7, 3, asked));
            range("16 s", WITH_CIRCLES, 1, 100000, FAR_OUTSIDE, (h, s) -> h.spoilt(0, s, 3, asked));
            range("16 s, i greatest", WITH_CIRCLES, 1, 100000, FAR_OUTSIDE,
                    (h, s) -> h.spoilt(0, s, 10000, asked));
            range("16 i", WITH_CIRCLES, 0, 10000, FAR_OUTSIDE, (h, i) -> h.spoilt(0, 7, i, asked));
            range("16 i, s greatest", WITH_CIRCLES, 0, 10000, FAR_OUTSIDE,
                    (h, i) -> h.spoilt(0, 100000, i, asked));
        }
        range("16 what", WITH_CIRCLES, 0, 1, FAR_OUTSIDE, (h, what) -> h.spoilt(0, 7, 3, what));
    }

    private static void extremeCuts() {
        for (int what = 0; what <= 1; what++) {
            int asked = what;
            unknown("17 circle", false, UNKNOWN, (h, circle) -> h.extreme(circle, 7, 3, asked));
            range("17 s", WITH_CIRCLES, 1, 100000, OUTSIDE, (h, s) -> h.extreme(0, s, 3, asked));
            range("17 n", WITH_CIRCLES, 0, 1000, OUTSIDE, (h, n) -> h.extreme(0, 7, n, asked));
        }
        range("17 what", WITH_CIRCLES, 0, 1, OUTSIDE, (h, what) -> h.extreme(0, 7, 3, what));
    }

    // ---- 3 shares, verniers

    private static void nearShares() {
        for (int what = 0; what <= 1; what++) {
            int asked = what;
            range("18 p", ANY_HEAD, 1, MILLION, OUTSIDE, (h, p) -> h.near(p, 7, 10, asked));
            range("18 q", ANY_HEAD, 1, MILLION, OUTSIDE, (h, q) -> h.near(7, q, 10, asked));
            range("18 limit", ANY_HEAD, 1, 10000, OUTSIDE, (h, limit) -> h.near(7, 9, limit, asked));
        }
        range("18 what", ANY_HEAD, 0, 1, OUTSIDE, (h, what) -> h.near(7, 9, 10, what));
    }

    private static void verniers() {
        range("19 d", ANY_HEAD, 2, 720, OUTSIDE, (h, d) -> h.vernier(d, 20));
        range("19 v", ANY_HEAD, 2, 60, OUTSIDE, (h, v) -> h.vernier(90, v));
    }

    private static void readPlaces() {
        for (int what = 0; what <= 2; what++) {
            int asked = what;
            range("20 q", ANY_HEAD, 1, MILLION, OUTSIDE, (h, q) -> h.read(0, q, asked));
            range("20 q above p", ANY_HEAD, 6, MILLION, OUTSIDE, (h, q) -> h.read(5, q, asked));
            for (int lower : new int[] {1, 7, MILLION}) {
                range("20 p, q " + lower, ANY_HEAD, 0, lower - 1, OUTSIDE,
                        (h, p) -> h.read(p, lower, asked));
            }
        }
        range("20 what", ANY_HEAD, 0, 2, OUTSIDE, (h, what) -> h.read(3, 7, what));
    }

    private static void twoSides() {
        for (int what = 0; what <= 1; what++) {
            int asked = what;
            range("21 q", ANY_HEAD, 1, MILLION, FAR_OUTSIDE, (h, q) -> h.two(0, q, 5, asked));
            range("21 q above p", ANY_HEAD, 6, MILLION, FAR_OUTSIDE, (h, q) -> h.two(5, q, 5, asked));
            for (int lower : new int[] {1, 7, MILLION}) {
                range("21 p, q " + lower, ANY_HEAD, 0, lower - 1, FAR_OUTSIDE,
                        (h, p) -> h.two(p, lower, 5, asked));
            }
            range("21 e", ANY_HEAD, -1000, 1000, FAR_OUTSIDE, (h, e) -> h.two(3, 7, e, asked));
        }
        range("21 what", ANY_HEAD, 0, 1, FAR_OUTSIDE, (h, what) -> h.two(3, 7, 5, what));
    }

    // ---- which refusal comes first

    private static void unknownAheadOfOutside() {
        unknown("11 and N", false, UNKNOWN, (h, circle) -> h.hole(circle, 1, 0));
        unknown("11 and i", false, UNKNOWN, (h, circle) -> h.hole(circle, 9, 10));
        unknown("12 and N", false, FAR_UNKNOWN, (h, circle) -> h.miss(circle, 1001, 0, 0));
        unknown("12 and i", false, FAR_UNKNOWN, (h, circle) -> h.miss(circle, 9, -1, 0));
        unknown("12 and what", false, FAR_UNKNOWN, (h, circle) -> h.miss(circle, 9, 1, 2));
        unknown("13 and N", false, UNKNOWN, (h, circle) -> h.worst(circle, 1, 0));
        unknown("13 and what", false, UNKNOWN, (h, circle) -> h.worst(circle, 9, 3));
        range("15 and v", ANY_HEAD, 0, 7, WORM_UNKNOWN, (h, eighth) -> h.error(eighth, 101));
        unknown("16 and s", false, FAR_UNKNOWN, (h, circle) -> h.spoilt(circle, 0, 3, 0));
        unknown("16 and i", false, FAR_UNKNOWN, (h, circle) -> h.spoilt(circle, 7, 10001, 0));
        unknown("16 and what", false, FAR_UNKNOWN, (h, circle) -> h.spoilt(circle, 7, 3, -1));
        unknown("17 and s", false, UNKNOWN, (h, circle) -> h.extreme(circle, 100001, 3, 0));
        unknown("17 and n", false, UNKNOWN, (h, circle) -> h.extreme(circle, 7, -1, 0));
        unknown("17 and what", false, UNKNOWN, (h, circle) -> h.extreme(circle, 7, 3, 2));
    }

    private static void outsideAheadOfTheRest() {
        for (int kind : ANY_HEAD) {
            // 61 is a prime that goes into none of the wheels and circles.
            refused("7 OUTSIDE ahead of NONE", kind, 3, OUTSIDE, (h, what) -> h.plain(61, what));
            refused("8 OUTSIDE ahead of NO", kind, 4, FAR_OUTSIDE, (h, what) -> h.compound(61, what));
            refused("9 OUTSIDE ahead of NONE", kind, 7, OUTSIDE, (h, what) -> h.differential(1000, what));
            refused("10 OUTSIDE ahead of NONE", kind, 4, OUTSIDE, (h, what) -> h.train(1, 999983, what));
        }
        refused("3 OUTSIDE ahead of FULL", ALL, 4, OUTSIDE, (h, holes) -> h.circle(holes));
        refused("3 OUTSIDE ahead of FULL", ALL, 121, OUTSIDE, (h, holes) -> h.circle(holes));
        refused("5 OUTSIDE ahead of FULL", ALL, 11, OUTSIDE, (h, teeth) -> h.gear(teeth));
        refused("5 OUTSIDE ahead of FULL", ALL, 121, OUTSIDE, (h, teeth) -> h.gear(teeth));
        for (int kind : new int[] {NEW, NO_CIRCLES}) {
            refused("14 OUTSIDE ahead of STATE", kind, 1, OUTSIDE, (h, n) -> h.best(n));
            refused("14 OUTSIDE ahead of STATE", kind, 1001, OUTSIDE, (h, n) -> h.best(n));
        }
    }

    private static void fullAheadOfNo() {
        for (int c = 0; c < 8; c++) {
            refused("3 FULL ahead of NO", ALL, 15 + 6 * c, FULL, (h, holes) -> h.circle(holes));
        }
    }

    private static void fullAndNoChangeNothing() {
        refused("3 FULL", ALL, 5, FULL, (h, holes) -> h.circle(holes));
        refused("3 FULL", ALL, 120, FULL, (h, holes) -> h.circle(holes));
        refused("5 FULL", ALL, 12, FULL, (h, teeth) -> h.gear(teeth));
        refused("5 FULL", ALL, 120, FULL, (h, teeth) -> h.gear(teeth));
        refused("5 FULL, a like one", ALL, 24, FULL, (h, teeth) -> h.gear(teeth));
        for (int c = 0; c < 3; c++) {
            refused("3 NO", SOME, 15 + 6 * c, NO, (h, holes) -> h.circle(holes));
        }
        for (int what = 0; what <= 3; what++) {
            refused("8 NO", NEW, what, FAR_NO, (h, asked) -> h.compound(2, asked));
            refused("8 NO", SOME, what, FAR_NO, (h, asked) -> h.compound(11, asked));
            refused("8 NO", ALL, what, FAR_NO, (h, asked) -> h.compound(61, asked));
        }
    }

    private static void questionsChangeNothing() {
        for (int kind : ANY_HEAD) {
            question("7 NONE", kind, 61, NONE, (h, n) -> h.plain(n, 0));
            question("9 NONE", kind, 1000, NONE, (h, n) -> h.differential(n, 0));
            question("10 NONE", kind, 61, NONE, (h, p) -> h.train(p, 1, 0));
            question("18 near", kind, 7, 22, (h, limit) -> h.near(22, 7, limit, 0));
            question("20 read", kind, 0, 0, (h, p) -> h.read(p, 7, 2));
            question("21 two", kind, 0, 0, (h, p) -> h.two(p, 7, 0, 0));
        }
        question("9 differential", SOME, 31, 30, (h, n) -> h.differential(n, 0));
        question("9 differential", ALL, 31, 30, (h, n) -> h.differential(n, 0));
        for (int kind : new int[] {SOME, ALL, NO_CIRCLES}) {
            question("10 train", kind, 2, 2, (h, p) -> h.train(p, 1, 0));
        }
        for (int kind : WITH_CIRCLES) {
            question("7 plain", kind, 4, 0, (h, n) -> h.plain(n, 0));
            question("8 compound", kind, 7, 0, (h, n) -> h.compound(n, 0));
            question("11 hole", kind, 4, 900, (h, i) -> h.hole(0, 4, i));
            question("12 miss", kind, 4, 0, (h, i) -> h.miss(0, 4, i, 0));
            question("13 worst", kind, 4, 4, (h, n) -> h.worst(0, n, 2));
            question("14 best", kind, 4, 0, (h, n) -> h.best(n));
            question("16 spoilt", kind, 15, -90, (h, s) -> h.spoilt(0, s, 1, 0));
            question("17 extreme", kind, 0, 0, (h, n) -> h.extreme(0, 1, n, 0));
        }
    }
}
