/**
 * The document's sentences that name a boundary case, each with a test of its own: the least and
 * the greatest numbers, empty and full rows, ties, and what comes round again. What is refused is
 * asked in RefusalsTest. All answers were worked out by hand.
 */
public final class BoundariesTest {
    private static final int FAR_NO = -1000000005;

    private static final Due due = new Due("BoundariesTest");

    private BoundariesTest() {
    }

    public static void main(String[] args) {
        lastOf512Calls();
        objectsStandAlone();
        leastAndGreatestWheel();
        leastAndGreatestHoles();
        numberedFromNothingOn();
        leastAndGreatestParts();
        fewestHolesOfSeveral();
        compoundStepAtBothEnds();
        compoundStepsAreNeverNothing();
        compoundSigns();
        compoundFirstPair();
        anotherNumberOfParts();
        tenOff();
        partsBesideFromTwoOn();
        partsBesideUpToThousand();
        ofBothTheLesser();
        shareIsASize();
        leastAndGreatestTeeth();
        trainsOfFewGears();
        allFourUnlike();
        leastAndGreatestShare();
        firstAndLastCut();
        halfAHole();
        cutsThatMissByNothing();
        bestOfSeveral();
        firstBehindTheLast();
        wormAtItsEdges();
        turnsComeRound();
        greatestTurn();
        extremeFromFirstToLast();
        fractionOfNothing();
        nearAtItsLimits();
        nearOfSeveral();
        leastAndGreatestVernier();
        leastAndGreatestPlace();
        mainIsCut();
        lineFromNothingToAll();
        broughtIntoTheCircle();
        middleFarthestOff();
        due.end();
    }

    private static DividingHead withCircles(int... holes) {
        DividingHead head = new DividingHead();
        for (int h : holes) {
            head.circle(h);
        }
        return head;
    }

    private static DividingHead withGears(DividingHead head, int... teeth) {
        for (int t : teeth) {
            head.gear(t);
        }
        return head;
    }

    private static void fraction(String call, long upper, long lower, long wantUpper, long wantLower) {
        due.is(call + " upper", upper, wantUpper);
        due.is(call + " lower", lower, wantLower);
    }

    // ---- "An object is used for at most 512 calls after it has been made."

    private static void lastOf512Calls() {
        DividingHead head = new DividingHead();
        for (int call = 1; call <= 509; call++) {
            head.wheel(10 + call % 2);
        }
        due.is("call 510", head.wheel(40), 11);
        due.is("call 511", head.circle(5), 0);
        due.is("call 512", head.plain(2, 1), 20);
    }

    private static void objectsStandAlone() {
        DividingHead one = withGears(withCircles(20), 30);
        DividingHead other = new DividingHead();
        one.wheel(100);
        one.vernier(90, 20);
        one.error(3, 50);
        due.is("another object's W", other.told(0), 40);
        due.is("another object's circles", other.holes(0), -1);
        due.is("another object's gears", other.teeth(0), -1);
        due.is("another object's D", other.told(3), 360);
        due.is("another object's v", other.told(4), 10);
        due.is("another object's ERROR", other.error(3, 0), 0);
    }

    // ---- "THE WHEEL has W teeth (10 to 200; 40 at first)"

    private static void leastAndGreatestWheel() {
        DividingHead head = withCircles(5, 120);
        due.is("W 40 at first", head.wheel(10), 40);
        // 10 by 2 is 5 turns; 10 by 50 is a 5th of a turn.
        due.is("W 10: turns", head.plain(2, 1), 5);
        due.is("W 10: holes", head.plain(50, 2), 1);
        due.is("W 10: a hole", head.hole(0, 2, 2), 50);
        due.is("W 10 was", head.wheel(200), 10);
        // 200 by 1000 is a 5th of a turn too.
        due.is("W 200: circle", head.plain(1000, 0), 0);
        due.is("W 200: holes", head.plain(1000, 2), 1);
        due.is("W 200: a hole", head.hole(1, 2, 2), 24000);
    }

    // ---- "HOLES (5 to 120, no two the same)"

    private static void leastAndGreatestHoles() {
        DividingHead head = withCircles(5, 120);
        due.is("5 HOLES", head.holes(0), 5);
        due.is("120 HOLES", head.holes(1), 120);
        // 40 by 25 is a turn and 3 5ths, 40 by 64 is 5 8ths of a turn.
        due.is("5 HOLES: holes more", head.plain(25, 2), 3);
        due.is("120 HOLES: circle", head.plain(64, 0), 1);
        due.is("120 HOLES: holes more", head.plain(64, 2), 75);
        due.is("the same again", head.circle(120), -5);
        due.is("the same again, the least", head.circle(5), -5);
        due.is("one less", head.circle(119), 2);
        due.is("one more", head.circle(6), 3);
    }

    // ---- "CIRCLES, 8 at most, numbered from 0 on", "GEARS, 10 at most, numbered from 0 on"

    private static void numberedFromNothingOn() {
        DividingHead head = new DividingHead();
        for (int c = 0; c < 8; c++) {
            due.is("no circle yet " + c, head.holes(c), -1);
            due.is("circles before " + c, head.told(1), c);
            due.is("circle " + c, head.circle(120 - c), c);
            due.is("its HOLES " + c, head.holes(c), 120 - c);
        }
        due.is("a ninth", head.circle(60), -4);
        due.is("the first is still there", head.holes(0), 120);
        due.is("the last is still there", head.holes(7), 113);
        for (int g = 0; g < 10; g++) {
            due.is("no gear yet " + g, head.teeth(g), -1);
            due.is("gears before " + g, head.told(2), g);
            due.is("gear " + g, head.gear(12 + g), g);
            due.is("its TEETH " + g, head.teeth(g), 12 + g);
        }
        due.is("an eleventh", head.gear(60), -4);
        due.is("the first gear is still there", head.teeth(0), 12);
        due.is("the last gear is still there", head.teeth(9), 21);
    }

    // ---- "To cut N parts (2 to 1000)"

    private static void leastAndGreatestParts() {
        DividingHead head = withCircles(100, 75);
        due.is("2 parts: circle", head.plain(2, 0), 1);
        due.is("2 parts: turns", head.plain(2, 1), 20);
        due.is("2 parts: holes", head.plain(2, 2), 0);
        // 40 by 1000 is a 25th: 3 of 75.
        due.is("1000 parts: circle", head.plain(1000, 0), 1);
        due.is("1000 parts: turns", head.plain(1000, 1), 0);
        due.is("1000 parts: holes", head.plain(1000, 2), 3);
        // a 100th and b 75th: 3 a + 4 b is 12 of 300; b 3 is a 0, so b -3 is a 8.
        due.is("1000 parts: a", head.compound(1000, 1), 8);
        due.is("1000 parts: b", head.compound(1000, 3), -3);
        // 3 a + 4 b is 6000: b 3 is a 1996.
        due.is("2 parts: a", head.compound(2, 1), 1996);
        due.is("2 parts: b", head.compound(2, 3), 3);
        due.is("2 parts: hole", head.hole(0, 2, 1), 2000);
        due.is("1000 parts: hole", head.hole(0, 1000, 999), 3996);
        due.is("2 parts: cuts", head.worst(0, 2, 2), 2);
        due.is("1000 parts: cuts", head.worst(0, 1000, 2), 1000);
        due.is("2 parts: best", head.best(2), 0);
        due.is("1000 parts: best", head.best(1000), 0);
        due.is("1000 parts: best of 7 and 75", withCircles(7, 75).best(1000), 1);
    }

    // ---- "of several the one with the fewest HOLES counts"

    private static void fewestHolesOfSeveral() {
        due.is("the fewest first", withCircles(15, 18, 21).plain(6, 0), 0);
        due.is("the fewest between", withCircles(18, 15, 21).plain(6, 0), 1);
        due.is("the fewest last", withCircles(21, 18, 15).plain(6, 0), 2);
        // 5 and 10 HOLES have fewer, but 40 by 6 does not come out by them.
        due.is("the fewest that does", withCircles(5, 21, 10, 18).plain(6, 0), 3);
        for (int what = 0; what <= 2; what++) {
            due.is("no circle that does", withCircles(5, 10).plain(6, what), -6);
            due.is("no circle at all", new DividingHead().plain(6, what), -6);
        }
    }

    // ---- "b from -k's HOLES to k's HOLES"

    private static void compound(String call, DividingHead head, int n, int h, int a, int k, int b) {
        due.is(call + " h", head.compound(n, 0), h);
        due.is(call + " a", head.compound(n, 1), a);
        due.is(call + " k", head.compound(n, 2), k);
        due.is(call + " b", head.compound(n, 3), b);
    }

    private static void compoundStepAtBothEnds() {
        // 11 a + 7 b is 77 for one turn: b is a multiple of 11; b 11 would be a 0, b -11 is a 14.
        compound("b is all the HOLES, below 0", withCircles(7, 11), 40, 0, 14, 1, -11);
        // 11 a + 7 b is 154 for two turns: b 11 is a 7 and goes ahead of b -11.
        compound("b is all the HOLES", withCircles(7, 11), 20, 0, 7, 1, 11);
        // k's HOLES, not h's: 7 a + 11 b is 154, b is a multiple of 7.
        compound("b is all of fewer HOLES", withCircles(11, 7), 20, 0, 11, 1, 7);
        compound("b is all of fewer HOLES, below 0", withCircles(11, 7), 40, 0, 22, 1, -7);
        // 120 a + 119 b is 20 times 14280: b is 120 in 120, whichever the sizes.
        compound("b is the greatest", withCircles(119, 120), 2, 0, 2261, 1, 120);
        DividingHead head = withCircles(120, 119);
        head.wheel(200);
        // 119 a + 120 b is 100 times 14280: b 119 is a 11880.
        compound("a is the greatest", head, 2, 0, 11880, 1, 119);
    }

    // ---- "neither of both 0"

    private static void compoundStepsAreNeverNothing() {
        // 40 by 80 is half a turn, 5 of 10: but a 5 is b 0. 12 a + 10 b is 60: b 6 is a 0.
        compound("neither a nor b is 0", withCircles(10, 12), 80, 0, 10, 1, -6);
        // A 5th of a turn: 2 a + b is 2: b 2 is a 0, so b -2 is a 2, though b 2 goes ahead.
        compound("a 0 does not count", withCircles(5, 10), 200, 0, 2, 1, -2);
    }

    // ---- "the least size of b, of both signs the one above 0"

    private static void compoundSigns() {
        // 4 a + 3 b is 160 of 60: b 0 would be a 40, b 4 is a 37.
        compound("b 0 does not count", withCircles(15, 20), 15, 0, 37, 1, 4);
        // 4 a + 3 b is 15 of 60, and 5 of 60.
        compound("the least size of all", withCircles(15, 20), 160, 0, 3, 1, 1);
        compound("the least size of all, below 0", withCircles(15, 20), 480, 0, 2, 1, -1);
        // 2 a + b is 50: b 2 is a 24, b -2 is a 26.
        compound("of both signs the one above 0", withCircles(5, 10), 8, 0, 24, 1, 2);
        // A 25th: 5 a + b is 1: b -4 is a 1, b 6 is a -1.
        compound("the least size, below 0", withCircles(5, 25), 1000, 0, 1, 1, -4);
        DividingHead head = withCircles(5, 7);
        head.wheel(60);
        // 3 35ths: 7 a + 5 b is 3: b 2 is a -1, b -5 is a 2.
        compound("a below 0", head, 700, 0, -1, 1, 2);
    }

    // ---- "two CIRCLES h < k (by numbers)", "the first pair of CIRCLES (by h, then k)"

    private static void compoundFirstPair() {
        // By circles 0 and 2 b would be 2: but the first pair counts, whatever its b.
        compound("the first pair ahead of the least b", withCircles(7, 11, 14), 20, 0, 7, 1, 11);
        // 4 turns by 8 and 12: 3 a + 2 b is 96: b 3 is a 30; by 8 and 24 b 3 would do too.
        compound("then k", withCircles(8, 12, 24), 10, 0, 30, 1, 3);
        // 40 by 9 needs 9 or 18 HOLES, 10 and 9 ahead of all: 9 a + 10 b is 400: b 4 is a 40.
        compound("by h", withCircles(10, 20, 9, 18), 9, 0, 40, 2, 4);
        // 40 by 99 needs 9 and 11, the last two alone: 11 a + 9 b is 40: b 2 is a 2.
        compound("the last pair", withCircles(5, 7, 8, 10, 13, 14, 9, 11), 99, 6, 2, 7, 2);
        for (int what = 0; what <= 3; what++) {
            due.is("no pair of two", withCircles(5, 10).compound(3, what), FAR_NO);
            due.is("one circle is no pair", withCircles(5).compound(2, what), FAR_NO);
            due.is("no circles", new DividingHead().compound(2, what), FAR_NO);
        }
    }

    // ---- "another number M of parts, that is PLAIN, beside N"

    private static void differential(String call, DividingHead head, int n, int... want) {
        for (int what = 0; what <= 6; what++) {
            due.is(call + " " + what, head.differential(n, what), want[want.length == 1 ? 0 : what]);
        }
    }

    private static void anotherNumberOfParts() {
        // 40 is PLAIN itself; within 10 of it there are 50 (share 8) and nothing else.
        DividingHead head = withGears(withCircles(5), 96, 12);
        differential("M is not N", head, 40, 50, 0, 0, 1, -6, -6, 1);
        // Beside 42 is 40: share 2. That 42 is not PLAIN does not matter, nor that 40 is.
        DividingHead two = withGears(withCircles(5), 24, 12);
        differential("M beside", two, 42, 40, 0, 0, 1, -6, -6, 0);
        differential("no gears", withCircles(5), 42, -6);
        differential("one gear", withGears(withCircles(5), 24), 42, -6);
        differential("no circles", withGears(new DividingHead(), 24, 12), 42, -6);
        differential("no PLAIN one beside", two, 70, -6);
    }

    // ---- "at most 10 off"; with 5 HOLES the PLAIN ones above 50 are 100 and 200

    private static void tenOff() {
        DividingHead ten = withGears(withCircles(5), 48, 12);
        // 10 off 100 is share 4.
        differential("10 off, the greater", ten, 90, 100, 0, 0, 1, -6, -6, 1);
        differential("10 off, the lesser", ten, 110, 100, 0, 0, 1, -6, -6, 0);
        // 11 off 100 is share 22 by 5.
        DividingHead eleven = withGears(withCircles(5), 88, 20);
        due.is("share of 11 off has a train", eleven.train(22, 5, 0), 0);
        differential("11 off, the greater", eleven, 89, -6);
        differential("11 off, the lesser", eleven, 111, -6);
        // 1 off 200 is share a 5th, 1 off 100 is share 2 by 5.
        DividingHead one = withGears(withCircles(5), 12, 30, 60);
        differential("1 off, the greater", one, 199, 200, 0, 0, 2, -6, -6, 1);
        differential("1 off, the lesser", one, 201, 200, 0, 0, 2, -6, -6, 0);
        differential("1 off 100", one, 99, 100, 0, 0, 1, -6, -6, 1);
    }

    // ---- M from "2 to 1000"

    private static void partsBesideFromTwoOn() {
        // 1 off 2 is share 20, 1 off 4 is share 10: of both the lesser.
        DividingHead least = withGears(withCircles(5), 120, 12, 24, 12);
        differential("M is 2", least, 3, 2, 0, 0, 1, 2, 3, 0);
        // 1 would be 1 off with share 40; 4, 5, 8 and 10 have shares 20, 24, 30 and 32.
        DividingHead beyond = withGears(withCircles(5), 120, 12, 48, 12);
        due.is("share 40 has a train", beyond.train(40, 1, 2), 2);
        differential("M is not 1", beyond, 2, -6);
    }

    private static void partsBesideUpToThousand() {
        // 10 off 1000 is share 2 by 5.
        DividingHead most = withGears(withCircles(25), 24, 60);
        differential("M is 1000", most, 990, 1000, 0, 0, 1, -6, -6, 1);
        // 77 by 13 HOLES is 1001: 1 off is share a 13th, 10 off is share 10 13ths.
        DividingHead beyond = withGears(withCircles(13), 12, 26, 20, 120);
        beyond.wheel(77);
        due.is("share a 13th has a train", beyond.train(1, 13, 3), 3);
        due.is("share 10 13ths has a train", beyond.train(10, 13, 1), 1);
        differential("M is not 1001", beyond, 1000, -6);
        differential("M is not 1001, 10 off", beyond, 991, -6);
    }

    // ---- "M is the nearest to N that has a TRAIN, of both the lesser"

    private static void ofBothTheLesser() {
        // 45 lies 5 off both: 40 is share 5, 50 is share 4.
        DividingHead both = withGears(withCircles(5), 60, 12, 48);
        differential("of both the lesser", both, 45, 40, 0, 0, 1, -6, -6, 0);
        DividingHead greater = withGears(withCircles(5), 48, 12);
        differential("of both the one with a train", greater, 45, 50, 0, 0, 1, -6, -6, 1);
        // 46 is 4 off 50, share 16 by 5, and 6 off 40, share 6.
        DividingHead nearer = withGears(withCircles(5), 72, 12, 96, 30);
        differential("the nearer one", nearer, 46, 50, 0, 2, 3, -6, -6, 1);
        DividingHead farther = withGears(withCircles(5), 72, 12);
        differential("the farther one has the train", farther, 46, 40, 0, 0, 1, -6, -6, 0);
    }

    // ---- "SHARE is (M less N) times W by M, its size"

    private static void shareIsASize() {
        // 2 off 40 on both sides is share 2, with the wheel's way told apart.
        DividingHead head = withGears(withCircles(5), 24, 12);
        differential("M is the lesser", head, 42, 40, 0, 0, 1, -6, -6, 0);
        differential("M is the greater", head, 38, 40, 0, 0, 1, -6, -6, 1);
    }

    // ---- "TEETH (12 to 120, there may be like ones)"

    private static void leastAndGreatestTeeth() {
        DividingHead head = withGears(new DividingHead(), 12, 120, 12, 120);
        train("120 by 12", head, 10, 1, 1, 0, -6, -6);
        train("12 by 120", head, 1, 10, 0, 1, -6, -6);
        train("the greatest share", head, 100, 1, 1, 0, 3, 2);
        train("the least share", head, 1, 100, 0, 1, 2, 3);
        train("like ones, share 1", head, 1, 1, 0, 2, -6, -6);
    }

    private static void train(String call, DividingHead head, int p, int q, int... want) {
        for (int what = 0; what <= 3; what++) {
            due.is(call + " " + what, head.train(p, q, what), want[want.length == 1 ? 0 : what]);
        }
    }

    // ---- "NONE: there is none (c, d: it has but two)"

    private static void trainsOfFewGears() {
        train("no gears", new DividingHead(), 1, 1, -6);
        train("a gear by itself", withGears(new DividingHead(), 24), 1, 1, -6);
        train("two gears", withGears(new DividingHead(), 24, 12), 2, 1, 0, 1, -6, -6);
        train("two gears, the other way", withGears(new DividingHead(), 24, 12), 1, 2, 1, 0, -6, -6);
        train("two gears, no four", withGears(new DividingHead(), 24, 12), 4, 1, -6);
        // 24 by 12 times 36 by 12 is 6, if gear 1 stood twice.
        train("three gears, no four", withGears(new DividingHead(), 24, 12, 36), 6, 1, -6);
        train("four gears", withGears(new DividingHead(), 24, 12, 36, 12), 6, 1, 0, 1, 2, 3);
    }

    // ---- "a, b, c, d, all four unlike", each pair of which would otherwise be one gear

    private static void allFourUnlike() {
        DividingHead head = withGears(new DividingHead(), 24, 36, 60, 84);
        train("a is not c", head, 4, 15, -6);
        train("b is not d", head, 60 * 84, 36 * 36, -6);
        // What 24 would be for on both sides is left out: two gears go ahead.
        train("a is not d", head, 24 * 60, 36 * 24, 2, 1, -6, -6);
        // 24 by 36 times 84 by 60, not 84 by 36 times 24 by 60.
        train("the first by a", head, 24 * 84, 36 * 60, 0, 1, 3, 2);
        DividingHead full = withGears(new DividingHead(), 13, 17, 19, 23, 29, 31, 37, 41, 43, 47);
        // The last four of ten, primes all.
        train("the last ones", full, 43 * 47, 37 * 41, 8, 6, 9, 7);
        train("the last two", full, 47, 43, 9, 8, -6, -6);
        train("the first and the last", full, 13, 47, 0, 9, -6, -6);
        train("none of ten", full, 13 * 13, 17 * 19, -6);
    }

    // ---- "A TRAIN of p by q (1 to 1000000 both)"

    private static void leastAndGreatestShare() {
        DividingHead head = withGears(new DividingHead(), 120, 12, 12, 120);
        train("1 by 1", head, 1, 1, 0, 3, -6, -6);
        train("1000000 by 1000000", head, 1000000, 1000000, 0, 3, -6, -6);
        train("1000000 by 100000", head, 1000000, 100000, 0, 1, -6, -6);
        train("10000 by 1000000", head, 10000, 1000000, 1, 0, 2, 3);
        train("1000000 by 1", head, 1000000, 1, -6);
        train("1 by 1000000", head, 1, 1000000, -6);
        train("999999 by 1000000", head, 999999, 1000000, -6);
    }

    // ---- "cut i (0 to N)", "counted through all turns"

    private static void firstAndLastCut() {
        DividingHead head = withCircles(7, 120);
        for (int n : new int[] {2, 3, 9, 999, 1000}) {
            due.is("cut 0 of " + n, head.hole(0, n, 0), 0);
            due.is("cut N of " + n, head.hole(0, n, n), 280);
            fraction("miss of cut 0 of " + n, head.miss(0, n, 0, 0), head.miss(0, n, 0, 1), 0, 1);
            fraction("miss of cut N of " + n, head.miss(0, n, n, 0), head.miss(0, n, n, 1), 0, 1);
        }
        // 280 by 9: one before the end is 248 and 8 9ths.
        due.is("cut N less 1", head.hole(0, 9, 8), 249);
        fraction("miss of cut N less 1", head.miss(0, 9, 8, 0), head.miss(0, 9, 8, 1), 1, 9);
        head.wheel(200);
        due.is("the greatest hole", head.hole(1, 1000, 1000), 24000);
        due.is("the one before", head.hole(1, 1000, 999), 23976);
    }

    // ---- "the HOLE nearest to i W HOLES by N (of both the greater one)"

    private static void halfAHole() {
        DividingHead head = withCircles(7);
        // 280 by 16 is 17 and a half.
        for (int i = 1; i < 16; i += 2) {
            due.is("half a hole, cut " + i, head.hole(0, 16, i), (35 * i + 1) / 2);
            fraction("its miss, cut " + i, head.miss(0, 16, i, 0), head.miss(0, 16, i, 1), 1, 2);
        }
        // 280 by 999, times 498 is 139 and 579 999ths; times 230 is 64 and 464 999ths.
        due.is("more than half", head.hole(0, 999, 498), 140);
        fraction("its miss", head.miss(0, 999, 498, 0), head.miss(0, 999, 498, 1), 140, 333);
        due.is("less than half", head.hole(0, 999, 230), 64);
        fraction("its miss, below 0", head.miss(0, 999, 230, 0), head.miss(0, 999, 230, 1), -464, 999);
        // 280 by 1000 is 7 25ths: cut 2 is 14 25ths, cut 1 is nearer to HOLE 0.
        due.is("hole 0", head.hole(0, 1000, 1), 0);
        due.is("hole 1", head.hole(0, 1000, 2), 1);
        // Half a HOLE from HOLE 0: 280 by 560.
        due.is("half of the first hole", head.hole(0, 560, 1), 1);
    }

    // ---- "the greatest size of MISSES of cuts 0 to N", "how many cuts (of 0 to N less 1)"

    private static void worst(String call, DividingHead head, int n, int upper, int lower, int cuts) {
        fraction(call, head.worst(0, n, 0), head.worst(0, n, 1), upper, lower);
        due.is(call + ", cuts", head.worst(0, n, 2), cuts);
    }

    private static void cutsThatMissByNothing() {
        DividingHead head = withCircles(7);
        worst("all cuts", head, 280, 0, 1, 280);
        worst("all cuts of 2", head, 2, 0, 1, 2);
        // 280 by 3 is 93 and a third.
        worst("cut 0 alone", head, 3, 1, 3, 1);
        worst("half a hole", head, 560, 1, 2, 280);
        // 280 by 997, a prime: the rests go through all 997ths.
        worst("the greatest lower number", head, 997, 498, 997, 1);
    }

    // ---- "the least of THE WORST by HOLES (of several the first)"

    private static void bestOfSeveral() {
        // 400, 600 and 2400 by 9 leave 4, 6 and 6: the worst are 4 9ths, a third and a third.
        due.is("the last is not the best", withCircles(10, 60, 15).best(9), 1);
        due.is("a middling one last", withCircles(7, 18, 60).best(9), 1);
        due.is("nothing missed by several", withCircles(7, 18, 36).best(9), 1);
        due.is("nothing missed by all", withCircles(9, 18, 36).best(9), 0);
        // 2400 by 192 is 12 and a half, 1600 by 192 is 8 and a third: both are a 120th by HOLES.
        due.is("like ones", withCircles(60, 40).best(192), 0);
        due.is("like ones, the other way round", withCircles(40, 60).best(192), 0);
        due.is("like ones behind a worse one", withCircles(5, 60, 40).best(192), 1);
        due.is("one circle", withCircles(5).best(999), 0);
        due.is("the eighth circle", withCircles(5, 6, 7, 8, 10, 11, 12, 13).best(13), 7);
        due.is("no circle", new DividingHead().best(2), -3);
    }

    // ---- "between them on straight lines (behind the last one the first)"

    private static void spoilt(String call, DividingHead head, int s, int i, int upper, int lower) {
        fraction(call, head.spoilt(0, s, i, 0), head.spoilt(0, s, i, 1), upper, lower);
    }

    private static void firstBehindTheLast() {
        DividingHead head = withCircles(32);
        head.error(7, 100);
        head.error(0, -60);
        // An eighth has 4 HOLES: from 28 on it goes down 40 for each, up to 32, which is 0.
        spoilt("before the last eighth", head, 27, 1, 75, 1);
        spoilt("at the last eighth", head, 28, 1, 100, 1);
        spoilt("behind the last eighth", head, 29, 1, 60, 1);
        spoilt("halfway", head, 30, 1, 20, 1);
        spoilt("the last hole", head, 31, 1, -20, 1);
        spoilt("round again", head, 32, 1, -60, 1);
        spoilt("behind the first", head, 33, 1, -45, 1);
        spoilt("at the second", head, 36, 1, 0, 1);
    }

    // ---- "8 ERRORS (-100 to 100; 0 at first)"

    private static void wormAtItsEdges() {
        DividingHead head = withCircles(8, 5);
        for (int eighth = 0; eighth < 8; eighth++) {
            spoilt("no ERROR yet " + eighth, head, 1, eighth, 0, 1);
            due.is("0 at first " + eighth, head.error(eighth, 100), 0);
            due.is("100 was " + eighth, head.error(eighth, -100), 100);
            due.is("-100 was " + eighth, head.error(eighth, eighth % 2 == 0 ? 100 : -100), -100);
        }
        // 5 HOLES: HOLE 1 is an eighth and 3 5ths of one: -100 and 3 5ths of 200.
        fraction("from -100 to 100", head.spoilt(1, 1, 1, 0), head.spoilt(1, 1, 1, 1), 20, 1);
        for (int i = 0; i <= 8; i++) {
            spoilt("cut " + i, head, 1, i, i % 2 == 0 ? 100 : -100, 1);
        }
    }

    // ---- "the crank moves s HOLES for each cut (1 to 100000)", "cut i (0 to 10000)"

    private static void turnsComeRound() {
        DividingHead head = withCircles(120);
        head.error(0, 30);
        head.error(1, 45);
        // An eighth has 15 HOLES: the ERROR is 30 and a HOLE each, up to 15.
        spoilt("cut 0", head, 100000, 0, 30, 1);
        spoilt("one hole", head, 1, 1, 31, 1);
        spoilt("a turn", head, 120, 1, 30, 1);
        spoilt("a turn and one hole", head, 121, 1, 31, 1);
        spoilt("a turn less one hole", head, 119, 1, 28, 1);
        // 10000 is 83 turns and 40 HOLES; 9960 is 83 turns.
        spoilt("cut 9960", head, 1, 9960, 30, 1);
        spoilt("cut 9961", head, 1, 9961, 31, 1);
        spoilt("cut 10000", head, 1, 10000, 0, 1);
        // 99967 is 833 turns and 7 HOLES.
        spoilt("s 99967", head, 99967, 1, 37, 1);
    }

    private static void greatestTurn() {
        // 1000000000 is 6 HOLES more than whole turns of 7: 6 eighths and 6 7ths of one.
        DividingHead seven = withCircles(7);
        seven.error(7, 7);
        spoilt("100000 times 10000 on 7", seven, 100000, 10000, 6, 1);
        seven.error(7, 1);
        spoilt("100000 times 10000 on 7, 7ths", seven, 100000, 10000, 6, 7);
        // 1000000000 is 41 HOLES more than whole turns of 119: 2 eighths and 90 119ths of one.
        DividingHead many = withCircles(119);
        many.error(2, 100);
        many.error(3, -100);
        spoilt("100000 times 10000 on 119", many, 100000, 10000, -6100, 119);
        // The greatest is at HOLE 30, the least at HOLE 45; 100000 HOLES are 40 and whole turns:
        // 90 times 40 is 30 and 30 turns, 16 times 40 is 45 and 5 turns.
        due.is("extreme, s 100000", many.extreme(0, 100000, 1000, 0), 90);
        due.is("extreme, s 100000, the least", many.extreme(0, 100000, 1000, 1), 16);
    }

    // ---- "The cut of 0 to n (0 to 1000) .., the first of several"

    private static void extremeFromFirstToLast() {
        DividingHead head = withCircles(120);
        head.error(7, 80);
        head.error(3, -80);
        // By 119 HOLES a cut the holes go down one by one: HOLE 105 is cut 15, HOLE 45 cut 75.
        due.is("n 1000", head.extreme(0, 119, 1000, 0), 15);
        due.is("n 1000, the least", head.extreme(0, 119, 1000, 1), 75);
        due.is("n is the cut", head.extreme(0, 119, 15, 0), 15);
        due.is("n is one less", head.extreme(0, 119, 14, 0), 14);
        due.is("n is the cut, the least", head.extreme(0, 119, 75, 1), 75);
        due.is("n is one less, the least", head.extreme(0, 119, 74, 1), 74);
        due.is("n 0", head.extreme(0, 119, 0, 0), 0);
        due.is("n 0, the least", head.extreme(0, 119, 0, 1), 0);
        due.is("all like, the first", head.extreme(0, 120, 1000, 0), 0);
        due.is("all like, the first least", head.extreme(0, 120, 1000, 1), 0);
        due.is("a true worm", withCircles(5).extreme(0, 1, 1000, 0), 0);
        due.is("a true worm, the least", withCircles(5).extreme(0, 1, 1000, 1), 0);
        due.is("cut 1", head.extreme(0, 105, 1000, 0), 1);
        due.is("cut 1, the least", head.extreme(0, 45, 1000, 1), 1);
        due.is("n 1", head.extreme(0, 105, 1, 0), 1);
        due.is("n 1, the least", head.extreme(0, 45, 1, 1), 1);
        // By 35 HOLES a cut HOLE 105 is cut 3, and again cut 27.
        due.is("the first of several", head.extreme(0, 35, 1000, 0), 3);
        // By 15 HOLES HOLE 45 is cut 3, and again cut 11.
        due.is("the first least of several", head.extreme(0, 15, 1000, 1), 3);
    }

    // ---- "Fractions are told in lowest terms, the lower number above 0"

    private static void fractionOfNothing() {
        DividingHead head = withCircles(30);
        fraction("a miss of nothing", head.miss(0, 6, 5, 0), head.miss(0, 6, 5, 1), 0, 1);
        worst("a worst of nothing", head, 6, 0, 1, 6);
        spoilt("an ERROR of nothing", head, 7, 7, 0, 1);
        fraction("near nothing", head.near(1, 5, 2, 0), head.near(1, 5, 2, 1), 0, 1);
        two("told nothing", head, 0, 1, 0, 0, 1);
        // 1200 by 500 is 2 and 2 5ths, and 4 times that is 9 and 3 5ths.
        fraction("a miss below 0", head.miss(0, 500, 1, 0), head.miss(0, 500, 1, 1), -2, 5);
        fraction("a miss above 0", head.miss(0, 500, 4, 0), head.miss(0, 500, 4, 1), 2, 5);
        head.error(1, -9);
        // 30 HOLES: HOLE 2 is 8 15ths of an eighth, and 9 times that is 24 5ths.
        spoilt("an ERROR below 0", head, 2, 1, -24, 5);
    }

    // ---- "NEAR a share p by q (1 to 1000000 both)", "up to a LIMIT (1 to 10000)"

    private static void near(String call, int p, int q, int limit, int upper, int lower) {
        DividingHead head = new DividingHead();
        fraction(call, head.near(p, q, limit, 0), head.near(p, q, limit, 1), upper, lower);
    }

    private static void nearAtItsLimits() {
        near("the least", 1, 1, 1, 1, 1);
        near("the greatest", 1000000, 1, 1, 1000000, 1);
        near("the greatest by the greatest", 1000000, 1000000, 10000, 1, 1);
        near("limit 1", 7, 5, 1, 1, 1);
        near("limit is the lower number", 7, 10000, 10000, 7, 10000);
        // 7 times 7143 is 50001, so 5 by 7143 is a 71430000th off; 7 by 9999 is farther off.
        near("one below", 7, 10000, 9999, 5, 7143);
        // A 19999th is nearer to a 10000th than to 0, but nearer to 0 than to a 9999th.
        near("the greatest limit counts", 1, 19999, 10000, 1, 10000);
        near("one less does not reach it", 1, 19999, 9999, 0, 1);
        // A third above a whole one, and a 6th below a half.
        near("great ones", 1000000, 3, 2, 666667, 2);
        near("the greatest upper number", 999999, 2, 1, 499999, 1);
        near("nothing off by a millionth", 999999, 1000000, 10000, 1, 1);
    }

    // ---- "of several the one with the least lower number, then the lesser"

    private static void nearOfSeveral() {
        near("the least lower number, the lesser", 1, 4, 2, 0, 1);
        near("the least lower number, the greater", 3, 4, 2, 1, 1);
        // A 20000th lies as far from 0 as from a 10000th.
        near("the least lower number, far on", 1, 20000, 10000, 0, 1);
        near("the lesser", 1, 2, 1, 0, 1);
        near("the lesser, above 1", 3, 2, 1, 1, 1);
        near("the lesser, great", 999999, 2, 1, 499999, 1);
        // 5 by 12 lies a 12th from 1 by 3 and from 1 by 2.
        near("two beside", 5, 12, 4, 1, 2);
        // 2 by 4 is 1 by 2, with a lesser lower number.
        near("in lowest terms", 2, 4, 4, 1, 2);
    }

    // ---- "D (2 to 720; 360 at first) marks, the VERNIER v (2 to 60; 10 at first) parts"

    private static void read(String call, DividingHead head, int p, int q, int main, int line, int all) {
        due.is(call + " main", head.read(p, q, 0), main);
        due.is(call + " line", head.read(p, q, 1), line);
        due.is(call + " read", head.read(p, q, 2), all);
    }

    private static void leastAndGreatestVernier() {
        DividingHead head = new DividingHead();
        read("360 and 10 at first", head, 1, 80, 4, 5, 45);
        due.is("2 and 2", head.vernier(2, 2), 1);
        read("2 and 2", head, 3, 4, 1, 1, 3);
        due.is("720 and 60", head.vernier(720, 60), 1);
        // 720 by 7 is 102 and 6 7ths, 360 7ths are 51 and 3 7ths.
        read("720 and 60", head, 1, 7, 102, 51, 6171);
        due.is("2 and 60", head.vernier(2, 60), 1);
        read("2 and 60", head, 1, 3, 0, 40, 40);
        due.is("720 and 2", head.vernier(720, 2), 1);
        // 720 by 16 times 7 is 315; 720 by 32 is 22 and a half.
        read("720 and 2", head, 7, 16, 315, 0, 630);
        read("720 and 2, a line", head, 1, 32, 22, 1, 45);
        due.is("the same again", head.vernier(720, 2), 1);
    }

    // ---- "A place of p by q of a circle (0 and more, below 1)", "(q 1 to 1000000, p from 0 to q less 1)"

    private static void leastAndGreatestPlace() {
        DividingHead head = new DividingHead();
        read("0 by 1", head, 0, 1, 0, 0, 0);
        read("0 by 1000000", head, 0, 1000000, 0, 0, 0);
        read("1 by 2", head, 1, 2, 180, 0, 1800);
        read("a millionth", head, 1, 1000000, 0, 0, 0);
        read("a millionth below 1", head, 999999, 1000000, 359, 10, 3600);
        two("0 by 1", head, 0, 1, 0, 0, 1);
        two("0 by 1000000", head, 0, 1000000, 0, 0, 1);
        two("1 by 2", head, 1, 2, 0, 1800, 1);
        two("a millionth", head, 1, 1000000, 0, 0, 1);
        // 3600 and 1799.9964, which is 1800: 2700 and 900.
        two("a millionth below 1", head, 999999, 1000000, 0, 3600, 1);
    }

    // ---- "MAIN is p D by q, cut"

    private static void mainIsCut() {
        DividingHead head = new DividingHead();
        read("on a mark", head, 1, 360, 1, 0, 10);
        // 128.99988 marks.
        read("just below a mark", head, 358333, 1000000, 128, 10, 1290);
        // 129.00024 marks.
        read("just above a mark", head, 358334, 1000000, 129, 0, 1290);
        read("on the last mark", head, 359, 360, 359, 0, 3590);
        read("behind the last mark", head, 719, 720, 359, 5, 3595);
    }

    // ---- "LINE is that from 0 to v nearest to what is left times v (of both the lesser)"

    private static void lineFromNothingToAll() {
        DividingHead head = new DividingHead();
        // A 7200th is half a part.
        read("half a part", head, 1, 7200, 0, 0, 0);
        read("a part and a half", head, 3, 7200, 0, 1, 1);
        read("half a part behind a mark", head, 21, 7200, 1, 0, 10);
        read("half a part before a mark", head, 19, 7200, 0, 9, 9);
        read("half a part before the circle's end", head, 7199, 7200, 359, 9, 3599);
        // 0.504 and 0.468 of a part.
        read("more than half a part", head, 14, 100000, 0, 1, 1);
        read("less than half a part", head, 13, 100000, 0, 0, 0);
        // 359.99964 marks: all ten parts, and the circle is full.
        read("the line is v", head, 999999, 1000000, 359, 10, 3600);
        head.vernier(2, 2);
        // A quarter of a mark is half a part.
        read("v 2, of both the lesser", head, 1, 8, 0, 0, 0);
        read("v 2, of both the lesser, 1 and 2", head, 3, 8, 0, 1, 1);
        read("v 2, the last", head, 7, 8, 1, 1, 3);
        read("v 2, the line is v", head, 8, 9, 1, 2, 4);
    }

    // ---- "each brought to 0 and more, below 1, of a circle", "if the first is the greater one"

    private static void two(String call, DividingHead head, int p, int q, int e, int upper, int lower) {
        fraction(call, head.two(p, q, e, 0), head.two(p, q, e, 1), upper, lower);
    }

    private static void broughtIntoTheCircle() {
        DividingHead head = new DividingHead();
        // The first is 1, so 0; the second is 1.498, so 1792.8 parts: 1793 by 2 less 900.
        two("the first is 1", head, 999, 1000, 1000, -7, 2);
        // 3599.9964 parts, so 3600; the second is 1792.8036: 5393 by 2 and 900.
        two("the first is just below 1", head, 999, 1000, 999, 7193, 2);
        // The first is 0, the second 0.502: 1807.2 parts.
        two("the first is 0", head, 1, 1000, -1000, 7, 2);
        // 3599.9964 parts, so 3600; the second is 1807.1964: 5407 by 2 and 900.
        two("the first is just below 0", head, 999, 1000000, -1000, 7207, 2);
        // The first is 0.498, so 1792.8 parts; the second is 1, so 0: 1793 by 2 and 900.
        two("the second is 1", head, 499, 1000, -1000, 3593, 2);
        // 1792.7964 and 3599.9964 parts, so 1793 and 3600: 5393 by 2 less 900.
        two("the second is just below 1", head, 498999, 1000000, -1000, 3593, 2);
        // 0.5 and e, the second half a circle less e.
        two("the second is below 1", head, 1, 2, 1000, 1800, 1);
        // 3 by 4 and 5 by 4, which is 1 by 4: 2700 and 900.
        two("the second is above 1", head, 3, 4, 0, 2700, 1);
        two("the first is the lesser", head, 1, 4, 0, 900, 1);
    }

    // ---- "the middle being off by e (-1000 to 1000 millionths of a circle)"

    private static void middleFarthestOff() {
        DividingHead head = new DividingHead();
        // 903.6 and 2696.4 parts, 896.4 and 2703.6 parts.
        two("e 1000", head, 1, 4, 1000, 900, 1);
        two("e -1000", head, 1, 4, -1000, 900, 1);
        head.vernier(500, 2);
        // 1000 parts: 1 and 499 parts, -1 and so 999, and 501.
        two("e 1000, place 0", head, 0, 1, 1000, 0, 1);
        two("e -1000, place 0", head, 0, 1, -1000, 1000, 1);
        // 0.001 and 499.999 parts; -0.001, so 999.999, and 500.001 parts.
        two("e 1", head, 0, 1, 1, 0, 1);
        two("e -1", head, 0, 1, -1, 1000, 1);
        // 0.499 and 499.501: 0 and 500; 0.501 and 499.499: 1 and 499.
        two("e 499", head, 0, 1, 499, 0, 1);
        two("e 501", head, 0, 1, 501, 0, 1);
        // 0.5 and 499.5, of both the lesser: 0 and 499.
        two("e 500", head, 0, 1, 500, -1, 2);
        head.vernier(2, 2);
        // 4 parts: 0.004 and 1.996: 0 and 2, less 1.
        two("the least circle", head, 0, 1, 1000, 0, 1);
        // -0.004, so 3.996, and 2.004: 4 and 2, and 1.
        two("the least circle, below 0", head, 0, 1, -1000, 4, 1);
        // 0.5 and 2.5, of both the lesser: 0 and 2.
        two("the least circle, half a part", head, 1, 8, 0, 0, 1);
        head.vernier(720, 60);
        // 43.2 and 21556.8 parts: 43 and 21557.
        two("the greatest circle", head, 0, 1, 1000, 0, 1);
        // 43.1568 parts, a turn being left out, and 21556.7568: 43 and 21557.
        two("the greatest circle comes round", head, 999999, 1000000, 1000, 0, 1);
    }
}
