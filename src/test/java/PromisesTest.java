/** Answers worked out by hand from the document, promise by promise. */
public final class PromisesTest {
    private static final int FAR_UNKNOWN = -1000000001, FAR_OUTSIDE = -1000000002;
    private static final int FAR_NO = -1000000005;
    private static final int LOW = Integer.MIN_VALUE, HIGH = Integer.MAX_VALUE;

    private static final Due due = new Due("PromisesTest");

    private PromisesTest() {
    }

    public static void main(String[] args) {
        newObject();
        wheels();
        circles();
        holesOfCircles();
        gears();
        teethOfGears();
        fullRows();
        plainParts();
        compoundParts();
        compoundChoice();
        differentialParts();
        differentialChoice();
        trains();
        trainOrder();
        nearestHoles();
        misses();
        worstMisses();
        bestCircles();
        errors();
        spoiltCuts();
        extremeCuts();
        nearShares();
        verniers();
        readPlaces();
        twoSides();
        toldNumbers();
        due.end();
    }

    private static DividingHead withCircles(int... holes) {
        DividingHead head = new DividingHead();
        for (int h : holes) {
            head.circle(h);
        }
        return head;
    }

    private static DividingHead withGears(int... teeth) {
        DividingHead head = new DividingHead();
        for (int t : teeth) {
            head.gear(t);
        }
        return head;
    }

    private static void fraction(String call, long upper, long lower, long wantUpper, long wantLower) {
        due.is(call + " upper", upper, wantUpper);
        due.is(call + " lower", lower, wantLower);
    }

    private static void newObject() {
        DividingHead head = new DividingHead();
        due.is("1 W", head.told(0), 40);
        due.is("1 circles", head.told(1), 0);
        due.is("1 gears", head.told(2), 0);
        due.is("1 D", head.told(3), 360);
        due.is("1 v", head.told(4), 10);
        for (int eighth = 0; eighth < 8; eighth++) {
            due.is("1 error " + eighth, head.error(eighth, 5), 0);
        }
        due.is("1 another object's error", new DividingHead().error(0, 1), 0);
    }

    private static void wheels() {
        DividingHead head = new DividingHead();
        due.is("2 wheel(10)", head.wheel(10), 40);
        due.is("2 wheel(200)", head.wheel(200), 10);
        for (int w : new int[] {9, 201, 0, -40, LOW, HIGH}) {
            due.is("2 wheel(" + w + ")", head.wheel(w), -2);
        }
        due.is("2 refused ones change nothing", head.told(0), 200);
        due.is("2 wheel(200) again", head.wheel(200), 200);
    }

    private static void circles() {
        DividingHead head = new DividingHead();
        for (int holes : new int[] {4, 121, 0, -5, LOW, HIGH}) {
            due.is("3 circle(" + holes + ")", head.circle(holes), -2);
        }
        due.is("3 refused ones are not kept", head.told(1), 0);
        due.is("3 circle(5)", head.circle(5), 0);
        due.is("3 circle(5) again", head.circle(5), -5);
        due.is("3 circle(120)", head.circle(120), 1);
        due.is("3 circle(120) again", head.circle(120), -5);
        due.is("3 two are kept", head.told(1), 2);
        for (int c = 2; c < 8; c++) {
            due.is("3 circle " + c, head.circle(10 + c), c);
        }
        due.is("3 a ninth", head.circle(50), -4);
        due.is("3 FULL ahead of NO", head.circle(5), -4);
        due.is("3 OUTSIDE ahead of FULL", head.circle(4), -2);
        due.is("3 eight are kept", head.told(1), 8);
    }

    /** With all circles and all gears, where a search would go one too far. */
    private static void fullRows() {
        DividingHead head = withCircles(120, 60, 30, 20, 15, 12, 10, 5);
        for (int g = 0; g < 10; g++) {
            head.gear(24 + 12 * (g % 2));
        }
        due.is("4 the last circle", head.holes(7), 5);
        due.is("4 behind the last circle", head.holes(8), -1);
        due.is("6 the last gear", head.teeth(9), 36);
        due.is("6 behind the last gear", head.teeth(10), -1);
        due.is("7 the last circle", head.plain(2, 0), 7);
        due.is("7 none of eight", head.plain(7, 0), -6);
        due.is("8 none of eight", head.compound(7, 0), FAR_NO);
        // 60, 64 and 75 are PLAIN: shares 14 by 3, 15 by 8 and 64 by 15.
        due.is("9 none of all", head.differential(67, 0), -6);
        due.is("10 none of ten", head.train(7, 1, 0), -6);
        due.is("10 four of ten", head.train(9, 4, 3), 2);
        due.is("11 behind the last circle", head.hole(8, 9, 1), -1);
        due.is("12 behind the last circle", head.miss(8, 9, 1, 0), FAR_UNKNOWN);
        due.is("13 behind the last circle", head.worst(8, 9, 0), -1);
        due.is("14 of eight", head.best(7), 0);
        due.is("16 behind the last circle", head.spoilt(8, 1, 1, 0), FAR_UNKNOWN);
        due.is("17 behind the last circle", head.extreme(8, 1, 1, 0), -1);
    }

    private static void holesOfCircles() {
        DividingHead head = new DividingHead();
        due.is("4 none yet", head.holes(0), -1);
        head.circle(49);
        head.circle(15);
        due.is("4 holes(0)", head.holes(0), 49);
        due.is("4 holes(1)", head.holes(1), 15);
        for (int circle : new int[] {2, -1, 8, LOW, HIGH}) {
            due.is("4 holes(" + circle + ")", head.holes(circle), -1);
        }
    }

    private static void gears() {
        DividingHead head = new DividingHead();
        for (int teeth : new int[] {11, 121, 0, -12, LOW, HIGH}) {
            due.is("5 gear(" + teeth + ")", head.gear(teeth), -2);
        }
        due.is("5 refused ones are not kept", head.told(2), 0);
        due.is("5 gear(12)", head.gear(12), 0);
        due.is("5 gear(120)", head.gear(120), 1);
        for (int g = 2; g < 10; g++) {
            due.is("5 like gear " + g, head.gear(12), g);
        }
        due.is("5 an eleventh", head.gear(30), -4);
        due.is("5 OUTSIDE ahead of FULL", head.gear(11), -2);
        due.is("5 ten are kept", head.told(2), 10);
    }

    private static void teethOfGears() {
        DividingHead head = new DividingHead();
        due.is("6 none yet", head.teeth(0), -1);
        head.gear(24);
        head.gear(100);
        due.is("6 teeth(0)", head.teeth(0), 24);
        due.is("6 teeth(1)", head.teeth(1), 100);
        for (int gear : new int[] {2, -1, 10, LOW, HIGH}) {
            due.is("6 teeth(" + gear + ")", head.teeth(gear), -1);
        }
    }

    private static void plainParts() {
        DividingHead head = withCircles(39, 21, 15);
        // 40 by 6 is 6 turns and 2 thirds: 26 of 39, 14 of 21, 10 of 15.
        due.is("7 the fewest holes", head.plain(6, 0), 2);
        due.is("7 whole turns", head.plain(6, 1), 6);
        due.is("7 holes more", head.plain(6, 2), 10);
        // 40 by 13 is 3 turns and a 13th.
        due.is("7 only by 39", head.plain(13, 0), 0);
        due.is("7 only by 39: turns", head.plain(13, 1), 3);
        due.is("7 only by 39: holes", head.plain(13, 2), 3);
        due.is("7 more parts than teeth", head.plain(1000, 0), -6);
        due.is("7 less than a turn: turns", head.plain(120, 1), 0);
        due.is("7 less than a turn: holes", head.plain(120, 2), 5);
        due.is("7 no holes more", head.plain(40, 2), 0);
        for (int what = 0; what < 3; what++) {
            due.is("7 none", head.plain(11, what), -6);
            due.is("7 no circles", new DividingHead().plain(2, what), -6);
            due.is("7 n 1", head.plain(1, what), -2);
            due.is("7 n 1001", head.plain(1001, what), -2);
            due.is("7 n 0", head.plain(0, what), -2);
            due.is("7 n -6", head.plain(-6, what), -2);
        }
        due.is("7 what -1", head.plain(6, -1), -2);
        due.is("7 what 3", head.plain(6, 3), -2);
        due.is("7 OUTSIDE ahead of NONE", head.plain(11, 3), -2);
        head.wheel(60);
        due.is("7 another wheel", head.plain(11, 0), -6);
        due.is("7 another wheel: turns", head.plain(7, 1), 8);
        due.is("7 another wheel: holes", head.plain(7, 2), 12);
    }

    private static void compound(String call, DividingHead head, int n, int h, int a, int k, int b) {
        due.is(call + " h", head.compound(n, 0), h);
        due.is(call + " a", head.compound(n, 1), a);
        due.is(call + " k", head.compound(n, 2), k);
        due.is(call + " b", head.compound(n, 3), b);
    }

    private static void compoundParts() {
        DividingHead head = withCircles(21, 33);
        // 40 by 77 is 120 of 231: 11 a and 7 b make 120; b 3 gives a 9, and no lesser b does.
        compound("8 77 parts", head, 77, 0, 9, 1, 3);
        // 40 by 11 is 840 of 231: b 1 leaves 833, no multiple of 11; b -1 leaves 847, a 77.
        compound("8 b below 0", head, 11, 0, 77, 1, -1);
        for (int what = 0; what < 4; what++) {
            due.is("8 none", head.compound(13, what), FAR_NO);
            due.is("8 one circle", withCircles(20).compound(2, what), FAR_NO);
            due.is("8 no circles", new DividingHead().compound(2, what), FAR_NO);
            due.is("8 n 1", head.compound(1, what), FAR_OUTSIDE);
            due.is("8 n 1001", head.compound(1001, what), FAR_OUTSIDE);
            due.is("8 n 0", head.compound(0, what), FAR_OUTSIDE);
        }
        due.is("8 what -1", head.compound(77, -1), FAR_OUTSIDE);
        due.is("8 what 4", head.compound(77, 4), FAR_OUTSIDE);
        due.is("8 OUTSIDE ahead of NO", head.compound(13, 4), FAR_OUTSIDE);
    }

    private static void compoundChoice() {
        // 40 by 8 is 5: 2 a + b is 50, so b 1 and -1 do not, and 2 goes ahead of -2.
        compound("8 of both signs the one above 0", withCircles(5, 10), 8, 0, 24, 1, 2);
        // 40 by 80 is half a turn: 12 a + 10 b is 60, b 6 would be a 0, b -6 is a 10.
        compound("8 a is not 0", withCircles(10, 12), 80, 0, 10, 1, -6);
        // 40 by 20 is 2: 11 a + 7 b is 154, so b is a multiple of 11: b 11 is a 7.
        compound("8 b may be all the holes", withCircles(7, 11), 20, 0, 7, 1, 11);
        // 40 by 39 needs the 13 of 26 and the 3 of 15: 15 a + 26 b is 400: b 5 is a 18.
        compound("8 a later pair", withCircles(7, 26, 11, 15), 39, 1, 18, 3, 5);
        // 40 by 15 comes out by 8 and 6 and by 16 and 6: 3 a + 4 b is 64: b 1 is a 20.
        compound("8 by h ahead", withCircles(8, 16, 6), 15, 0, 20, 2, 1);
        // 40 by 1000 is a 25th: 5 a + b is 1: b 1 would be a 0, b -4 is a 1, b 6 is a -1.
        compound("8 of the size of b", withCircles(5, 25), 1000, 0, 1, 1, -4);
        DividingHead head = withCircles(20, 15);
        // 100 by 150 is 40 of 60: 3 a + 4 b is 40: b 1 is a 12.
        head.wheel(100);
        compound("8 another wheel", head, 150, 0, 12, 1, 1);
    }

    private static void differential(String call, DividingHead head, int n, int... want) {
        for (int what = 0; what < 7; what++) {
            due.is(call + " " + what, head.differential(n, what), want[what]);
        }
    }

    private static void differentialParts() {
        DividingHead head = withCircles(15, 21);
        head.gear(72);
        head.gear(24);
        head.gear(32);
        head.gear(64);
        // Beside 61 is 60: its share 2 by 3 is of no two, but 24 by 72 times 64 by 32, and
        // the order by a puts gear 1 ahead of gear 3.
        differential("9 four gears", head, 61, 60, 0, 1, 0, 3, 2, 0);
        // Beside 57 is 56 (15 of 21), but its share 5 by 7 has no gears; 60 has 64 by 32 for 2.
        differential("9 M is the greater", head, 57, 60, 0, 3, 2, -6, -6, 1);
        for (int what = 0; what < 7; what++) {
            due.is("9 none", head.differential(1000, what), -6);
            due.is("9 no gears", withCircles(15).differential(61, what), -6);
            due.is("9 no circles", withGears(40, 60).differential(61, what), -6);
            due.is("9 n 1", head.differential(1, what), -2);
            due.is("9 n 1001", head.differential(1001, what), -2);
            due.is("9 n 0", head.differential(0, what), -2);
        }
        due.is("9 what -1", head.differential(61, -1), -2);
        due.is("9 what 7", head.differential(61, 7), -2);
        due.is("9 OUTSIDE ahead of NONE", head.differential(1000, 7), -2);
    }

    private static void differentialChoice() {
        // Of 5 holes 40 and 50 are PLAIN, and nothing between: their shares are how far off they
        // are times 1 and times 4 by 5.
        DividingHead head = withCircles(5);
        head.gear(60);
        head.gear(12);
        // 45 lies 5 off both: 40 has share 5, 60 by 12; 50 has share 4, none.
        differential("9 the lesser of both", head, 45, 40, 0, 0, 1, -6, -6, 0);
        head.gear(48);
        // Now 50 has 48 by 12 too, and the lesser still counts.
        differential("9 of both the lesser", head, 45, 40, 0, 0, 1, -6, -6, 0);
        // 46 is 4 off 50, share 16 by 5, and 6 off 40, share 6.
        differential("9 none of both", head, 46, -6, -6, -6, -6, -6, -6, -6);
        // 30 is 5 off 25 (share 8), 10 off 20 (share 20) and off 40 (share 10).
        differential("9 PLAIN ones without gears", head, 30, -6, -6, -6, -6, -6, -6, -6);
        DividingHead ten = withCircles(5);
        ten.gear(120);
        ten.gear(12);
        // 50 is 10 off 40: share 10; nothing else from 41 to 60 but 50 is PLAIN.
        differential("9 ten off", ten, 50, 40, 0, 0, 1, -6, -6, 0);
        // 51 is 11 off 40, and 1 off 50: share 4 by 5.
        differential("9 eleven off", ten, 51, -6, -6, -6, -6, -6, -6, -6);
        // Beside 89 and 111 only 100 is PLAIN, 11 off, share 22 by 5.
        DividingHead eleven = withCircles(5);
        eleven.gear(88);
        eleven.gear(20);
        differential("9 eleven off, the greater", eleven, 89, -6, -6, -6, -6, -6, -6, -6);
        differential("9 eleven off, the lesser", eleven, 111, -6, -6, -6, -6, -6, -6, -6);
        // 1000 is PLAIN with 25 holes: share 1 by 25 is 12 by 120 times 48 by 120.
        DividingHead most = withCircles(25);
        for (int teeth : new int[] {12, 120, 48, 120}) {
            most.gear(teeth);
        }
        differential("9 up to 1000", most, 999, 1000, 0, 0, 1, 2, 3, 1);
        // 40 is PLAIN itself, but no other number beside it.
        DividingHead own = withCircles(5);
        own.gear(12);
        own.gear(24);
        due.is("9 another number", own.differential(40, 0), -6);
        // Beside 3 the lesser 2 has share 20, but 4 has share 10.
        differential("9 small parts", ten, 3, 4, 0, 0, 1, -6, -6, 1);
        // The CIRCLE for M is the one with the fewest holes.
        DividingHead two = withCircles(10, 5);
        two.gear(60);
        two.gear(12);
        due.is("9 the circle for M", two.differential(45, 1), 1);
        two.wheel(80);
        // With 80 teeth 40 has share 10 and 50 has share 8.
        due.is("9 another wheel", two.differential(45, 0), -6);
    }

    private static void train(String call, DividingHead head, int p, int q, int... want) {
        for (int what = 0; what < 4; what++) {
            due.is(call + " " + what, head.train(p, q, what), want[what]);
        }
    }

    private static void trains() {
        DividingHead head = withGears(20, 30, 50, 70);
        train("10 two gears", head, 5, 2, 2, 0, -6, -6);
        train("10 not in lowest terms", head, 500000, 200000, 2, 0, -6, -6);
        // 20 by 30 times 50 by 70 is 10 by 21.
        train("10 four gears", head, 10, 21, 0, 1, 2, 3);
        train("10 none", head, 11, 1, -6, -6, -6, -6);
        train("10 a gear alone", head, 1, 1, -6, -6, -6, -6);
        train("10 a gear stands once", head, 4, 9, -6, -6, -6, -6);
        train("10 no gears", new DividingHead(), 1, 1, -6, -6, -6, -6);
        for (int what = 0; what < 4; what++) {
            due.is("10 p 0", head.train(0, 1, what), -2);
            due.is("10 q 0", head.train(1, 0, what), -2);
            due.is("10 p -1", head.train(-1, 1, what), -2);
            due.is("10 q -1", head.train(1, -1, what), -2);
            due.is("10 p too great", head.train(1000001, 1, what), -2);
            due.is("10 q too great", head.train(1, 1000001, what), -2);
            due.is("10 p and q greatest", head.train(1000000, 1000000, what), -6);
            due.is("10 p LOW", head.train(LOW, LOW, what), -2);
        }
        due.is("10 what -1", head.train(5, 2, -1), -2);
        due.is("10 what 4", head.train(5, 2, 4), -2);
        due.is("10 OUTSIDE ahead of NONE", head.train(11, 1, 4), -2);
        DividingHead full = withGears(12, 12, 120, 120);
        train("10 the greatest share", full, 100, 1, 2, 0, 3, 1);
        train("10 the least share", full, 10000, 1000000, 0, 2, 1, 3);
    }

    private static void trainOrder() {
        train("10 like gears are two", withGears(40, 40), 1, 1, 0, 1, -6, -6);
        // 2: 48 by 24 and 60 by 30 both do; the first by a.
        train("10 the first by a", withGears(30, 60, 48, 24), 2, 1, 1, 0, -6, -6);
        // Two go ahead of four, even if four would begin with a lower a:
        // 3 by 2 is 24 40 by 20 32 and 36 by 24.
        train("10 two ahead of four", withGears(24, 20, 40, 32, 48), 3, 2, 4, 3, -6, -6);
        // The first by b: 24 by 12 with both of 12.
        train("10 the first by b", withGears(12, 12, 24), 2, 1, 2, 0, -6, -6);
        // 24 by 12 times 36 by 12: b 0, c 3, d 1.
        train("10 the first by c, then d", withGears(12, 12, 24, 36, 36, 12), 6, 1, 2, 0, 3, 1);
        // a 2, c 3 and not a 3, c 2; and of 1 like 0 the first as b.
        train("10 a ahead of c", withGears(13, 13, 26, 39), 6, 1, 2, 0, 3, 1);
    }

    private static void nearestHoles() {
        DividingHead head = withCircles(7, 16);
        // 40 times 7 by 9 is 31 and a 9th; times 5 is 155 and 5 9ths.
        due.is("11 below a half", head.hole(0, 9, 1), 31);
        due.is("11 above a half", head.hole(0, 9, 5), 156);
        due.is("11 cut 0", head.hole(0, 9, 0), 0);
        due.is("11 cut N", head.hole(0, 9, 9), 280);
        // 40 times 7 by 16 is 17 and a half.
        due.is("11 of both the greater", head.hole(0, 16, 1), 18);
        due.is("11 of both the greater, again", head.hole(0, 16, 3), 53);
        due.is("11 unknown circle", head.hole(2, 9, 1), -1);
        due.is("11 circle -1", head.hole(-1, 9, 1), -1);
        due.is("11 UNKNOWN ahead of OUTSIDE", head.hole(2, 1, -1), -1);
        due.is("11 n 1", head.hole(0, 1, 0), -2);
        due.is("11 n 1001", head.hole(0, 1001, 0), -2);
        due.is("11 n 0", head.hole(0, 0, 0), -2);
        due.is("11 i -1", head.hole(0, 9, -1), -2);
        due.is("11 i 10", head.hole(0, 9, 10), -2);
        due.is("11 LOW", head.hole(LOW, LOW, LOW), -1);
        DividingHead most = withCircles(120);
        most.wheel(200);
        due.is("11 the greatest", most.hole(0, 1000, 1000), 24000);
        due.is("11 the least parts", most.hole(0, 2, 1), 12000);
    }

    private static void miss(String call, DividingHead head, int n, int i, int upper, int lower) {
        fraction(call, head.miss(0, n, i, 0), head.miss(0, n, i, 1), upper, lower);
    }

    private static void misses() {
        DividingHead head = withCircles(7);
        miss("12 below the place", head, 9, 1, -1, 9);
        miss("12 above the place", head, 9, 5, 4, 9);
        miss("12 in lowest terms", head, 9, 3, -1, 3);
        miss("12 cut 0", head, 9, 0, 0, 1);
        miss("12 cut N", head, 9, 9, 0, 1);
        miss("12 of both the greater", head, 16, 1, 1, 2);
        for (int what = 0; what < 2; what++) {
            due.is("12 unknown circle", head.miss(1, 9, 1, what), FAR_UNKNOWN);
            due.is("12 circle -1", head.miss(-1, 9, 1, what), FAR_UNKNOWN);
            due.is("12 UNKNOWN ahead of OUTSIDE", head.miss(1, 1, 1, what), FAR_UNKNOWN);
            due.is("12 n 1", head.miss(0, 1, 0, what), FAR_OUTSIDE);
            due.is("12 n 1001", head.miss(0, 1001, 0, what), FAR_OUTSIDE);
            due.is("12 i -1", head.miss(0, 9, -1, what), FAR_OUTSIDE);
            due.is("12 i 10", head.miss(0, 9, 10, what), FAR_OUTSIDE);
        }
        due.is("12 what -1", head.miss(0, 9, 1, -1), FAR_OUTSIDE);
        due.is("12 what 2", head.miss(0, 9, 1, 2), FAR_OUTSIDE);
        due.is("12 what 2, unknown circle", head.miss(1, 9, 1, 2), FAR_UNKNOWN);
    }

    private static void worst(String call, DividingHead head, int n, int upper, int lower, int exact) {
        fraction(call, head.worst(0, n, 0), head.worst(0, n, 1), upper, lower);
        due.is(call + " exact", head.worst(0, n, 2), exact);
    }

    private static void worstMisses() {
        DividingHead head = withCircles(7);
        // 280 by 9: the rests go through all 9ths.
        worst("13 9 parts", head, 9, 4, 9, 1);
        // 280 by 12 is 23 and a third.
        worst("13 in lowest terms", head, 12, 1, 3, 4);
        worst("13 a half", head, 16, 1, 2, 8);
        worst("13 exact", head, 28, 0, 1, 28);
        worst("13 the most parts", head, 1000, 12, 25, 40);
        worst("13 the least parts", head, 2, 0, 1, 2);
        for (int what = 0; what < 3; what++) {
            due.is("13 unknown circle", head.worst(1, 9, what), -1);
            due.is("13 circle -1", head.worst(-1, 9, what), -1);
            due.is("13 UNKNOWN ahead of OUTSIDE", head.worst(1, 1, what), -1);
            due.is("13 n 1", head.worst(0, 1, what), -2);
            due.is("13 n 1001", head.worst(0, 1001, what), -2);
        }
        due.is("13 what -1", head.worst(0, 9, -1), -2);
        due.is("13 what 3", head.worst(0, 9, 3), -2);
    }

    private static void bestCircles() {
        DividingHead head = new DividingHead();
        due.is("14 no circles", head.best(9), -3);
        due.is("14 OUTSIDE ahead of STATE", head.best(1), -2);
        due.is("14 OUTSIDE ahead of STATE, 1001", head.best(1001), -2);
        head.circle(7);
        due.is("14 one circle", head.best(9), 0);
        head.circle(14);
        // 4 9ths of a HOLE is less of a circle with more HOLES.
        due.is("14 by HOLES", head.best(9), 1);
        head.circle(28);
        due.is("14 the last", head.best(9), 2);
        head.circle(18);
        due.is("14 exact", head.best(9), 3);
        due.is("14 the first of several", head.best(7), 0);
        due.is("14 n 1", head.best(1), -2);
        due.is("14 n 0", head.best(0), -2);
        due.is("14 n LOW", head.best(LOW), -2);
        // Both miss 17 parts by 8 17ths of a HOLE.
        due.is("14 more HOLES, first", withCircles(120, 5).best(17), 0);
        // 40 by 80: with 5 HOLES half a HOLE is missed, with 10 none.
        due.is("14 half a hole", withCircles(5, 10).best(80), 1);
        // 40 by 3 misses a third of both 7 and 8: of 7 a 21st, of 8 a 24th.
        due.is("14 a third", withCircles(7, 8).best(3), 1);
        due.is("14 a third, the other way round", withCircles(8, 7).best(3), 0);
    }

    private static void errors() {
        DividingHead head = new DividingHead();
        due.is("15 error(0, 100)", head.error(0, 100), 0);
        due.is("15 error(0, -100)", head.error(0, -100), 100);
        due.is("15 error(7, 3)", head.error(7, 3), 0);
        for (int eighth : new int[] {-1, 8, LOW, HIGH}) {
            due.is("15 eighth " + eighth, head.error(eighth, 0), -1001);
            due.is("15 UNKNOWN ahead of OUTSIDE", head.error(eighth, 101), -1001);
        }
        for (int v : new int[] {-101, 101, LOW, HIGH}) {
            due.is("15 v " + v, head.error(0, v), -1002);
        }
        due.is("15 refused ones change nothing", head.error(0, 0), -100);
        due.is("15 the last eighth", head.error(7, 0), 3);
        due.is("15 the others", head.error(1, 0), 0);
    }

    private static void spoilt(String call, DividingHead head, int s, int i, int upper, int lower) {
        fraction(call, head.spoilt(0, s, i, 0), head.spoilt(0, s, i, 1), upper, lower);
    }

    private static void spoiltCuts() {
        DividingHead head = withCircles(20);
        spoilt("16 a true worm", head, 3, 5, 0, 1);
        head.error(0, 10);
        head.error(1, 25);
        head.error(7, -50);
        // 20 HOLES: each eighth has two and a half.
        spoilt("16 cut 0", head, 1, 0, 10, 1);
        spoilt("16 at 1 of 20", head, 1, 1, 16, 1);
        spoilt("16 at 2 of 20", head, 2, 1, 22, 1);
        spoilt("16 at 3 of 20", head, 1, 3, 20, 1);
        spoilt("16 at 4 of 20", head, 1, 4, 10, 1);
        spoilt("16 at 5 of 20", head, 1, 5, 0, 1);
        spoilt("16 at 17 of 20", head, 17, 1, -40, 1);
        spoilt("16 behind the last eighth", head, 18, 1, -38, 1);
        spoilt("16 at 19 of 20", head, 1, 19, -14, 1);
        spoilt("16 a whole turn", head, 20, 1, 10, 1);
        spoilt("16 more than a turn", head, 11, 2, 22, 1);
        spoilt("16 the greatest", head, 99999, 9999, 16, 1);
        spoilt("16 the greatest of all", head, 100000, 10000, 10, 1);
        DividingHead odd = withCircles(7);
        odd.error(0, 1);
        // 1 of 7 is 8 7ths of an eighth, 6 of 7 is 6 and 6 7ths.
        spoilt("16 lowest terms", odd, 1, 6, 0, 1);
        odd.error(1, 3);
        spoilt("16 7ths", odd, 1, 1, 18, 7);
        odd.error(2, -4);
        spoilt("16 7ths, the other way", odd, 8, 1, 2, 1);
        for (int what = 0; what < 2; what++) {
            due.is("16 unknown circle", head.spoilt(1, 1, 0, what), FAR_UNKNOWN);
            due.is("16 circle -1", head.spoilt(-1, 1, 0, what), FAR_UNKNOWN);
            due.is("16 UNKNOWN ahead of OUTSIDE", head.spoilt(1, 0, 0, what), FAR_UNKNOWN);
            due.is("16 s 0", head.spoilt(0, 0, 0, what), FAR_OUTSIDE);
            due.is("16 s 100001", head.spoilt(0, 100001, 0, what), FAR_OUTSIDE);
            due.is("16 i -1", head.spoilt(0, 1, -1, what), FAR_OUTSIDE);
            due.is("16 i 10001", head.spoilt(0, 1, 10001, what), FAR_OUTSIDE);
        }
        due.is("16 what -1", head.spoilt(0, 1, 0, -1), FAR_OUTSIDE);
        due.is("16 what 2", head.spoilt(0, 1, 0, 2), FAR_OUTSIDE);
    }

    private static void extremeCuts() {
        DividingHead head = withCircles(16);
        due.is("17 a true worm: greatest", head.extreme(0, 3, 1000, 0), 0);
        due.is("17 a true worm: least", head.extreme(0, 3, 1000, 1), 0);
        head.error(3, 40);
        head.error(5, -40);
        // An eighth has two HOLES: the greatest is at HOLE 6, the least at HOLE 10.
        due.is("17 greatest", head.extreme(0, 1, 16, 0), 6);
        due.is("17 least", head.extreme(0, 1, 16, 1), 10);
        due.is("17 the first of several", head.extreme(0, 2, 1000, 0), 3);
        due.is("17 the first least of several", head.extreme(0, 2, 1000, 1), 5);
        due.is("17 up to n, n too", head.extreme(0, 1, 6, 0), 6);
        due.is("17 not behind n", head.extreme(0, 1, 5, 0), 5);
        due.is("17 least not behind n", head.extreme(0, 1, 7, 1), 0);
        due.is("17 cut 0 alone", head.extreme(0, 6, 0, 0), 0);
        // Cut 2 is at 22 HOLES, 6 behind a whole turn.
        due.is("17 through turns", head.extreme(0, 11, 1000, 0), 2);
        due.is("17 the greatest step", head.extreme(0, 100000, 1000, 0), 0);
        due.is("17 cut 1", head.extreme(0, 6, 1000, 0), 1);
        due.is("17 cut 1, the least", head.extreme(0, 10, 1000, 1), 1);
        head.error(0, 50);
        due.is("17 cut 0 ahead of a whole turn", head.extreme(0, 1, 1000, 0), 0);
        head.error(0, -50);
        due.is("17 cut 0 ahead of a whole turn, the least", head.extreme(0, 1, 1000, 1), 0);
        for (int what = 0; what < 2; what++) {
            due.is("17 unknown circle", head.extreme(1, 1, 1, what), -1);
            due.is("17 circle -1", head.extreme(-1, 1, 1, what), -1);
            due.is("17 UNKNOWN ahead of OUTSIDE", head.extreme(1, 0, 1, what), -1);
            due.is("17 s 0", head.extreme(0, 0, 1, what), -2);
            due.is("17 s 100001", head.extreme(0, 100001, 1, what), -2);
            due.is("17 n -1", head.extreme(0, 1, -1, what), -2);
            due.is("17 n 1001", head.extreme(0, 1, 1001, what), -2);
        }
        due.is("17 what -1", head.extreme(0, 1, 1, -1), -2);
        due.is("17 what 2", head.extreme(0, 1, 1, 2), -2);
    }

    private static void near(String call, int p, int q, int limit, int upper, int lower) {
        DividingHead head = new DividingHead();
        fraction(call, head.near(p, q, limit, 0), head.near(p, q, limit, 1), upper, lower);
    }

    private static void nearShares() {
        near("18 pi by 7ths", 314159, 100000, 10, 22, 7);
        near("18 pi by 113ths", 314159, 100000, 113, 355, 113);
        near("18 exact, in lowest terms", 6, 8, 4, 3, 4);
        near("18 exact, a limit beyond", 6, 8, 10000, 3, 4);
        near("18 the limit counts too", 3, 7, 7, 3, 7);
        // 3 by 7 with up to 6: 2 by 5 is a 35th off, 1 by 2 a 14th.
        near("18 below the limit", 3, 7, 6, 2, 5);
        near("18 of both the lesser", 7, 2, 1, 3, 1);
        // 1 by 4: 0 by 1 is a 4th off, 1 by 2 as well, 1 by 3 a 12th.
        near("18 the least lower number", 1, 4, 2, 0, 1);
        // 2 by 5: 1 by 2 is a 10th off, 1 by 3 a 15th.
        near("18 the last one", 2, 5, 3, 1, 3);
        near("18 a half by ten", 1, 2, 10, 1, 2);
        near("18 great ones", 999999, 10000, 10000, 999999, 10000);
        // 3 by 4: 1 by 1 is a 4th off, 1 by 2 as well.
        near("18 the least lower number, above", 3, 4, 2, 1, 1);
        near("18 a half by whole ones", 1, 2, 1, 0, 1);
        near("18 next to 0", 1, 1000000, 10000, 0, 1);
        near("18 next to 1", 999999, 1000000, 10000, 1, 1);
        near("18 the greatest", 1000000, 1, 10000, 1000000, 1);
        near("18 whole", 1000000, 1000000, 1, 1, 1);
        // It lies between 1 by 2 (a 20002nd off) and 5000 by 9999 (a 99999999th or so off).
        near("18 close beside", 5001, 10001, 10000, 5000, 9999);
        DividingHead head = new DividingHead();
        for (int what = 0; what < 2; what++) {
            due.is("18 p 0", head.near(0, 1, 1, what), -2);
            due.is("18 q 0", head.near(1, 0, 1, what), -2);
            due.is("18 p -1", head.near(-1, 1, 1, what), -2);
            due.is("18 p 1000001", head.near(1000001, 1, 1, what), -2);
            due.is("18 q 1000001", head.near(1, 1000001, 1, what), -2);
            due.is("18 limit 0", head.near(1, 1, 0, what), -2);
            due.is("18 limit 10001", head.near(1, 1, 10001, what), -2);
        }
        due.is("18 what -1", head.near(1, 1, 1, -1), -2);
        due.is("18 what 2", head.near(1, 1, 1, 2), -2);
    }

    private static void verniers() {
        DividingHead head = new DividingHead();
        due.is("19 vernier(2, 2)", head.vernier(2, 2), 1);
        due.is("19 D 2", head.told(3), 2);
        due.is("19 v 2", head.told(4), 2);
        due.is("19 vernier(720, 60)", head.vernier(720, 60), 1);
        for (int d : new int[] {1, 721, 0, -2, LOW, HIGH}) {
            due.is("19 d " + d, head.vernier(d, 10), -2);
        }
        for (int v : new int[] {1, 61, 0, -2, LOW, HIGH}) {
            due.is("19 v " + v, head.vernier(360, v), -2);
        }
        due.is("19 refused ones change no D", head.told(3), 720);
        due.is("19 refused ones change no v", head.told(4), 60);
    }

    private static void read(String call, DividingHead head, int p, int q, int main, int line, int all) {
        due.is(call + " main", head.read(p, q, 0), main);
        due.is(call + " line", head.read(p, q, 1), line);
        due.is(call + " read", head.read(p, q, 2), all);
    }

    private static void readPlaces() {
        DividingHead head = new DividingHead();
        read("20 place 0", head, 0, 7, 0, 0, 0);
        // 360 by 11 is 32 and 8 11ths, 80 11ths is 7 and 3 11ths.
        read("20 cut", head, 1, 11, 32, 7, 327);
        // 5 11ths: 163 and 7 11ths, 70 11ths is 6 and 4 11ths.
        read("20 cut again", head, 5, 11, 163, 6, 1636);
        // A 720th is half a mark: line 5; a 7200th is half a part.
        read("20 half a mark", head, 1, 720, 0, 5, 5);
        read("20 of both the lesser", head, 1, 7200, 0, 0, 0);
        read("20 of both the lesser, 3 halves", head, 3, 7200, 0, 1, 1);
        read("20 just above 2", head, 501, 900000, 0, 2, 2);
        read("20 the line is v", head, 999999, 1000000, 359, 10, 3600);
        read("20 next to 0", head, 1, 1000000, 0, 0, 0);
        head.vernier(720, 60);
        // 720 times 2 by 7 is 205 and 5 7ths, 300 7ths is 42 and 6 7ths.
        read("20 the greatest", head, 2, 7, 205, 43, 12343);
        head.vernier(2, 2);
        read("20 the least", head, 2, 3, 1, 1, 3);
        for (int what = 0; what < 3; what++) {
            due.is("20 p q", head.read(7, 7, what), -2);
            due.is("20 p -1", head.read(-1, 7, what), -2);
            due.is("20 q 0", head.read(0, 0, what), -2);
            due.is("20 q -1", head.read(-2, -1, what), -2);
            due.is("20 q LOW", head.read(0, LOW, what), -2);
            due.is("20 q 1000001", head.read(0, 1000001, what), -2);
        }
        due.is("20 what -1", head.read(0, 7, -1), -2);
        due.is("20 what 3", head.read(0, 7, 3), -2);
    }

    private static void two(String call, DividingHead head, int p, int q, int e, int upper, int lower) {
        fraction(call, head.two(p, q, e, 0), head.two(p, q, e, 1), upper, lower);
    }

    private static void twoSides() {
        DividingHead head = new DividingHead();
        // 3600 parts: a millionth is 0.0036 of one.
        two("21 true", head, 1, 4, 0, 900, 1);
        // 903.6 and 2696.4: 904 and 2696.
        two("21 off", head, 1, 4, 1000, 900, 1);
        // 901.5012 and 2698.4988: 902 and 2698; then 901.4976 and 2698.5024: 901 and 2699.
        two("21 off, just above a half", head, 1, 4, 417, 900, 1);
        two("21 off, just below a half", head, 1, 4, 416, 900, 1);
        // 3 by 4 and 5 by 4, which is 1 by 4: the first is the greater one.
        two("21 the first is the greater", head, 3, 4, 0, 2700, 1);
        two("21 half a circle", head, 1, 2, 0, 1800, 1);
        // 1796.4 and 3603.6 less 3600: 1796 and 4: half the sum is 900, and 900.
        two("21 brought below 1", head, 1, 2, -1000, 1800, 1);
        // 1803.6 and 3596.4: 1804 and 3596: 2700 less 900.
        two("21 below half a circle", head, 1, 2, 1000, 1800, 1);
        // -3.6, brought to 3596.4, and 1803.6: 3596 and 1804: half the sum is 2700, and 900.
        two("21 brought above 0", head, 0, 1, -1000, 3600, 1);
        // 0.45 and 1799.55: 0 and 1800: 900 less 900.
        two("21 nearly a half", head, 0, 1, 125, 0, 1);
        head.vernier(500, 2);
        // 1000 parts: 0.5 and 499.5, the lesser ones 0 and 499: 499 by 2 less 250.
        two("21 below 0", head, 0, 1, 500, -1, 2);
        // 999.5 and 500.5, the lesser ones 999 and 500: 1499 by 2 and 250.
        two("21 both the lesser, behind", head, 0, 1, -500, 1999, 2);
        head.vernier(3, 3);
        // 9 parts: 1 and 2 7ths, and 5 and 11 14ths: 1 and 6: 7 by 2 less 9 by 4.
        two("21 fourths", head, 1, 7, 0, 5, 4);
        // 7 and 5 7ths, and 3 and 3 14ths: 8 and 3: 11 by 2 and 9 by 4.
        two("21 fourths, the first is the greater", head, 6, 7, 0, 31, 4);
        head.vernier(720, 60);
        // 43199.9568 and 21599.9568: 43200 and 21600: 32400 and 10800.
        two("21 the greatest", head, 999999, 1000000, 0, 43200, 1);
        for (int what = 0; what < 2; what++) {
            due.is("21 p q", head.two(7, 7, 0, what), FAR_OUTSIDE);
            due.is("21 p -1", head.two(-1, 7, 0, what), FAR_OUTSIDE);
            due.is("21 q 0", head.two(0, 0, 0, what), FAR_OUTSIDE);
            due.is("21 q 1000001", head.two(0, 1000001, 0, what), FAR_OUTSIDE);
            due.is("21 e -1001", head.two(0, 1, -1001, what), FAR_OUTSIDE);
            due.is("21 e 1001", head.two(0, 1, 1001, what), FAR_OUTSIDE);
            due.is("21 LOW", head.two(LOW, LOW, LOW, what), FAR_OUTSIDE);
        }
        due.is("21 what -1", head.two(0, 1, 0, -1), FAR_OUTSIDE);
        due.is("21 what 2", head.two(0, 1, 0, 2), FAR_OUTSIDE);
    }

    private static void toldNumbers() {
        DividingHead head = withCircles(20, 30);
        head.gear(40);
        head.gear(40);
        head.gear(50);
        head.wheel(90);
        head.vernier(180, 30);
        due.is("22 W", head.told(0), 90);
        due.is("22 circles", head.told(1), 2);
        due.is("22 gears", head.told(2), 3);
        due.is("22 D", head.told(3), 180);
        due.is("22 v", head.told(4), 30);
        for (int what : new int[] {-1, 5, LOW, HIGH}) {
            due.is("22 what " + what, head.told(what), -2);
        }
    }
}
