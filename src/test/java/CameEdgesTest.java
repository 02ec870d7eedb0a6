/** Each sentence on what CAME, FITS, FROM, CLOCKS, FLOODS and A DAY that names an edge. */
public final class CameEdgesTest {
    private static final int BAD = PlatformsLeave.BAD, FULL = PlatformsLeave.FULL, NONE = PlatformsLeave.NONE;
    private static final int ALL = Integer.MAX_VALUE;

    public static void main(String[] args) {
        came6AtMost();
        cameInSteps1To60();
        cameAtTrainsThereAre();
        cameTwice();
        forgets();
        fitsNothing();
        fits0And30();
        fitsStep60();
        fitsAtTheEndOfSteps();
        fitsSomePlatform();
        fitsHeld();
        fitsAllThatCame();
        fromSteps();
        fromUpInAllRings();
        fromByRoundInAllRings();
        fromExactlyHalf();
        fromStanding();
        clocksFrom0To60();
        clocksLast();
        clocksNone();
        clocksAlike();
        floodsStep0();
        floodsSteps();
        floodsTenths();
        floodsLowestTerms();
        floodsOthersAsTold();
        floodsOfEach();
        daysOfZ();
        dayStarts();
        dayStep0AndStep60();
        dayOfHeld();
        Due.end();
    }

    /** "CAME (6 at most)", FULL. */
    private static void came6AtMost() {
        PlatformsLeave x = Due.laid("n9;t3;p0,0,0,0;");
        for (int many = 1; many <= 6; many++) Due.is("came " + many, x.came(0, many, false), many);
        Due.is("a seventh", x.came(0, 3, true), FULL);
        Due.is("six still", x.count(5), 6);
        Due.is("the seventh is not told", x.fits(0), ALL - 31);
        Due.is("six are forgotten", x.forget(), 6);
        Due.is("one again", x.came(0, 60, true), 1);
    }

    /** "in step s (1 to 60)". */
    private static void cameInSteps1To60() {
        PlatformsLeave x = Due.laid("n9;t3;p0,0,0,0;");
        for (int s = -3; s <= 64; s++) {
            Due.is("came in " + s, x.came(0, s, true), s >= 1 && s <= 60 ? 1 : BAD);
            Due.is("then forgotten", x.forget(), s >= 1 && s <= 60 ? 1 : 0);
        }
        Due.is("far", x.came(0, Integer.MAX_VALUE, true), BAD);
        Due.is("far below", x.came(0, Integer.MIN_VALUE, true), BAD);
    }

    private static void cameAtTrainsThereAre() {
        PlatformsLeave x = Due.laid("n9;t3;t4;t5;t6;t7;p0,0,0,0;");
        for (int t = -2; t <= 7; t++) {
            Due.is("came at " + t, x.came(t, 1, false), t >= 0 && t <= 4 ? 1 : BAD);
            x.forget();
        }
        Due.is("no train", Due.laid("n9;p0,0,0,0;").came(0, 1, true), BAD);
    }

    /** The same told twice is two; what can not be both fits nothing. */
    private static void cameTwice() {
        PlatformsLeave x = Due.laid("n9;t3;p0,0,0,0;");
        Due.is("once", x.came(0, 5, true), 1);
        Due.is("twice", x.came(0, 5, true), 2);
        Due.is("as once", x.fits(0), 1 << 3);
        Due.is("and not", x.came(0, 5, false), 3);
        Due.is("not both", x.fits(0), 0);
    }

    private static void forgets() {
        PlatformsLeave x = Due.laid("n9;t3;p0,0,0,0;");
        Due.is("none told", x.forget(), 0);
        x.came(0, 1, true);
        Due.is("fits none", x.fits(0), 0);
        Due.is("one told", x.forget(), 1);
        Due.is("fits all", x.fits(0), ALL);
        Due.is("none told", x.forget(), 0);
    }

    /** Where nothing CAME all starts fit: bits 0 to 30, and not the one of the sign. */
    private static void fitsNothing() {
        PlatformsLeave x = Due.laid("n9;t3;p0,0,0,0;p1,2,0,0;p2,4,0,0;p3,6,0,0;p4,8,0,0;");
        for (int p = -1; p <= 5; p++) Due.is("fits " + p, x.fits(p), p >= 0 && p <= 4 ? ALL : BAD);
    }

    /** "the starts (as bits, 0 to 30)": the last one alone, the first two together. */
    private static void fits0And30() {
        PlatformsLeave x = Due.laid("n24;t1;t0;p0,0,0,9;");
        x.came(0, 30, true);
        Due.is("6 and 30", x.fits(0), 1 << 6 | 1 << 30);
        x.came(0, 6, false);
        Due.is("30 alone", x.fits(0), 1 << 30);
        x.forget();
        x.came(0, 1, true);
        Due.is("0 and 1 alike", x.fits(0), 3);
        x.forget();
        x.came(1, 29, true);
        Due.is("30 and 6", x.fits(0), 1 << 30 | 1 << 6);
    }

    /** "in step s (1 to 60)": the last one. */
    private static void fitsStep60() {
        PlatformsLeave x = Due.laid("n24;t16;t15;p1,0,0,9;");
        x.came(0, 60, true);
        x.came(1, 59, true);
        Due.is("29 and 30", x.fits(0), 1 << 30 | 1 << 29);
        x.came(0, 60, false);
        Due.is("none", x.fits(0), 0);
    }

    /** "AT a TRAIN .. at the end of a step": on its way through counts not. */
    private static void fitsAtTheEndOfSteps() {
        PlatformsLeave x = Due.laid("n10;t1;t2;p4,0,0,9;");
        x.came(1, 1, true);
        Due.is("at its end", x.fits(0), 3);
        x.came(0, 1, false);
        Due.is("through it", x.fits(0), 3);
        x.came(0, 1, true);
        Due.is("not at it", x.fits(0), 0);
    }

    /** "some PLATFORM was AT a TRAIN, or that none was". */
    private static void fitsSomePlatform() {
        PlatformsLeave x = Due.laid("n9;a3;t3;p0,3,0,30;p0,3,0,30;");
        x.came(0, 29, true);
        Due.is("the other one is there", x.fits(0), ALL);
        x.came(0, 30, false);
        int comes = 1 << 4 | 1 << 13 | 1 << 22;
        int isInTheWay = 1 << 3 | 1 << 12 | 1 << 21 | 1 << 30;
        Due.is("and gone in 30", x.fits(0), ALL - comes - isInTheWay);
        x.forget();
        x.came(0, 29, false);
        Due.is("none was", x.fits(0), 0);
    }

    private static void fitsHeld() {
        PlatformsLeave x = Due.laid("n9;t3;t0;p0,0,0,0;");
        x.hold(0);
        x.came(0, 3, true);
        Due.is("by no start", x.fits(0), 0);
        x.forget();
        x.came(1, 60, true);
        Due.is("by each", x.fits(0), ALL);
    }

    /** "all that CAME tells would be so": each of six must be. */
    private static void fitsAllThatCame() {
        for (int wrong = 0; wrong < 6; wrong++) {
            PlatformsLeave x = Due.laid("n24;t3;t4;p0,0,0,0;");
            int[] steps = {7, 6, 8, 31, 9, 60};
            for (int i = 0; i < 6; i++) {
                boolean was = steps[i] == 7 || steps[i] == 31;
                x.came(0, steps[i], i == wrong ? !was : was);
            }
            Due.is("wrong " + wrong, x.fits(0) >> 5 & 1, 0);
        }
        PlatformsLeave x = Due.laid("n24;t3;t4;p0,0,0,0;");
        x.came(0, 60, false);
        x.came(0, 31, true);
        x.came(1, 8, true);
        x.came(0, 8, false);
        x.came(0, 7, true);
        x.came(1, 7, false);
        Due.is("all six", x.fits(0), 1 << 5);
    }

    /** "(what = 0; s 0 to 60) .. (1; s 1 to 60)". */
    private static void fromSteps() {
        PlatformsLeave x = Due.laid("n9;t3;p0,0,0,0;");
        for (int s = -2; s <= 63; s++) {
            int up = Math.floorMod(3 - s, 9);
            Due.is("up in " + s, x.from(0, 0, s, 0), s >= 0 && s <= 60 ? up : BAD);
            Due.is("by in " + s, x.from(0, 0, s, 1), s >= 1 && s <= 60 ? 101 : BAD);
        }
    }

    /** "how many CELLS up from it a TRAIN is (0 to N less 1)". */
    private static void fromUpInAllRings() {
        for (int n = 4; n <= 24; n++) {
            for (int c = 0; c < n; c++) {
                int t = n / 2;
                PlatformsLeave x = Due.laid("n" + n + ";t" + t + ";p0," + c + ",0,30;");
                int up = 0;
                for (int at = c; at != t; at = (at + 1) % n) up++;
                Due.is("up in " + n + " from " + c, x.from(0, 0, 0, 0), up);
                Due.is("up in " + n + " from " + c + " in 29", x.from(0, 0, 29, 0), up);
            }
        }
    }

    /** "by round: N less, .. N more, ..": by one cell up is 1 less, also where the train falls behind. */
    private static void fromByRoundInAllRings() {
        for (int n = 4; n <= 24; n++) {
            PlatformsLeave up = Due.laid("n" + n + ";t1;p0,0,0,0;");
            PlatformsLeave down = Due.laid("n" + n + ";t1;p0,0,1,0;");
            PlatformsLeave two = Due.laid("n" + n + ";t1;p4,0,0,0;");
            PlatformsLeave twoDown = Due.laid("n" + n + ";t1;p4,0,1,0;");
            for (int s = 1; s <= n + 1; s++) {
                Due.is("by up in " + n, up.from(0, 0, s, 1), 101);
                Due.is("by down in " + n, down.from(0, 0, s, 1), 99);
                Due.is("by two up in " + n, two.from(0, 0, s, 1), 102);
                Due.is("by two down in " + n, twoDown.from(0, 0, s, 1), n == 4 ? 102 : 98);
            }
        }
    }

    /** "if that is more than half of N": half is not; "less than 0 by half of N or more": half is. */
    private static void fromExactlyHalf() {
        PlatformsLeave x = Due.laid("n4;t0;p4,0,0,0;");
        Due.is("2 up at first, in 1", x.from(0, 0, 1, 0), 2);
        Due.is("2 less than 0: 4 more", x.from(0, 0, 1, 1), 102);
        Due.is("0 up in 2", x.from(0, 0, 2, 0), 0);
        Due.is("2 is not more than half", x.from(0, 0, 2, 1), 102);
        x = Due.laid("n5;t0;p4,0,0,0;");
        Due.is("3 less than 0: 5 more", x.from(0, 0, 1, 1), 102);
        x = Due.laid("n5;t0;p4,0,1,0;");
        Due.is("2 less than 0: less than half", x.from(0, 0, 1, 1), 98);
        x = Due.laid("n5;t3;p4,0,1,0;");
        Due.is("3: more than half, 5 less", x.from(0, 0, 1, 1), 98);
    }

    private static void fromStanding() {
        PlatformsLeave x = Due.laid("n4;t2;p0,0,0,30;p0,1,0,0;");
        Due.is("stands", x.from(0, 0, 29, 1), 100);
        Due.is("goes", x.from(0, 0, 30, 1), 101);
        Due.is("waits", x.from(1, 0, 20, 1), 100);
        x.hold(0);
        Due.is("held", x.from(0, 0, 60, 1), 100);
    }

    /** "at the end of a step (0 to 60): how often; in which first". */
    private static void clocksFrom0To60() {
        PlatformsLeave x = Due.laid("n9;a3;p0,3,0,0;p0,3,0,0;");
        Due.is("in 0 alone", x.clocks(0, 1, 0), 1);
        Due.is("first in 0", x.clocks(0, 1, 1), 0);
        x.hold(0);
        x.hold(1);
        Due.is("in all 61", x.clocks(1, 0, 0), 61);
        Due.is("first in 0", x.clocks(1, 0, 1), 0);
        x = Due.laid("n9;a3;p0,3,0,30;p0,2,0,0;");
        Due.is("in 1, 10, 19, 28", x.clocks(0, 1, 0), 4);
        Due.is("first in 1", x.clocks(0, 1, 1), 1);
    }

    private static void clocksLast() {
        PlatformsLeave x = Due.laid("n24;a16;p1,0,0,30;p0,16,0,0;");
        x.hold(1);
        Due.is("once", x.clocks(0, 1, 0), 1);
        Due.is("in 60", x.clocks(0, 1, 1), 60);
        x = Due.laid("n24;a17;p1,0,0,30;p0,17,0,0;");
        x.hold(1);
        Due.is("not in 60", x.clocks(0, 1, 0), 0);
        Due.is("none", x.clocks(0, 1, 1), NONE);
    }

    /** "none": how often is 0 then. */
    private static void clocksNone() {
        PlatformsLeave x = Due.laid("n9;p0,3,0,0;p0,4,0,30;");
        Due.is("never", x.clocks(0, 1, 0), 0);
        Due.is("in no step", x.clocks(0, 1, 1), NONE);
        x.pass(4);
        Due.is("in 1, 10, 19, 28", x.clocks(0, 1, 0), 4);
        Due.is("in step 1", x.clocks(0, 1, 1), 1);
        PlatformsLeave through = Due.laid("n10;a4;p4,3,0,0;p0,4,0,30;");
        through.hold(1);
        Due.is("past it, not with it", through.clocks(0, 1, 0), 0);
    }

    private static void clocksAlike() {
        PlatformsLeave x = Due.laid("n9;p0,3,0,0;p0,4,0,30;");
        for (int p = -1; p <= 2; p++) {
            for (int what = 0; what < 2; what++) Due.is("alike " + p, x.clocks(p, p, what), BAD);
        }
        Due.is("a third", x.clocks(0, 2, 0), BAD);
        Due.is("of a third", x.clocks(2, 0, 0), BAD);
        Due.is("one alone", Due.laid("n9;p0,3,0,0;").clocks(0, 1, 0), BAD);
    }

    private static void chance(PlatformsLeave x, int n, int of, int above, int below) {
        Due.is("above by " + n + " " + of, x.floods(0, 0, n, of, 0), above);
        Due.is("below by " + n + " " + of, x.floods(0, 0, n, of, 1), below);
    }

    /** "in each of steps 1 to n .. at the end of any of these": not of step 0. */
    private static void floodsStep0() {
        PlatformsLeave x = Due.laid("n9;t3;p0,3,0,0;");
        for (int of = 0; of <= 10; of++) chance(x, 0, of, 0, 1);
        chance(x, 1, 0, 0, 1);
        chance(x, 1, 10, 1, 1);
        chance(x, 1, 7, 7, 10);
        chance(x, 6, 7, 7, 10);
        chance(Due.laid("n9;t3;p0,3,0,2;"), 1, 0, 1, 1);
    }

    /** "1 to n (0 to 6)": one at n cells comes in step n, if at all. */
    private static void floodsSteps() {
        PlatformsLeave x = Due.laid("n9;t6;p0,0,0,0;");
        for (int n = 0; n < 6; n++) chance(x, n, 1, 0, 1);
        chance(x, 6, 0, 1, 1);
        chance(x, 6, 1, 531441, 1000000);
        chance(x, 6, 3, 117649, 1000000);
        chance(x, 6, 5, 1, 64);
        chance(x, 6, 9, 1, 1000000);
        chance(x, 6, 10, 0, 1);
        chance(Due.laid("n9;t7;p0,0,0,0;"), 6, 0, 0, 1);
        chance(Due.laid("n9;t6;p0,0,0,1;"), 6, 9, 1, 1000000);
        chance(Due.laid("n9;t6;p0,0,0,2;"), 6, 0, 0, 1);
        Due.is("n 7", x.floods(0, 0, 7, 1, 0), BAD);
        Due.is("n -1", x.floods(0, 0, -1, 1, 0), BAD);
    }

    /** "HELD by x (0 to 10) of ten". */
    private static void floodsTenths() {
        PlatformsLeave x = Due.laid("n9;t1;p0,0,0,0;");
        int[] above = {1, 9, 4, 7, 3, 1, 2, 3, 1, 1, 0};
        int[] below = {1, 10, 5, 10, 5, 2, 5, 10, 5, 10, 1};
        for (int of = -1; of <= 11; of++) {
            boolean good = of >= 0 && of <= 10;
            chance(x, 1, of, good ? above[of] : BAD, good ? below[of] : BAD);
        }
    }

    /** "in lowest terms": no number above 1 goes into both; 0 is 0 of 1, 1 is 1 of 1. */
    private static void floodsLowestTerms() {
        PlatformsLeave x = Due.laid("n9;t2;t0;p0,0,0,0;p3,4,1,0;");
        for (int n = 0; n <= 6; n++) {
            for (int of = 0; of <= 10; of++) {
                for (int t = 0; t < 2; t++) {
                    int above = x.floods(0, t, n, of, 0);
                    int below = x.floods(0, t, n, of, 1);
                    int common = java.math.BigInteger.valueOf(above).gcd(java.math.BigInteger.valueOf(below)).intValue();
                    Due.is("common to both, " + n + " " + of, common, 1);
                    Due.is("a chance", above >= 0 && above <= below && 1000000 % below == 0 ? 1 : 0, 1);
                }
            }
        }
    }

    /** "(HELD as told or not), all others as told". */
    private static void floodsOthersAsTold() {
        PlatformsLeave x = Due.laid("n9;t2;p0,0,0,0;p0,2,0,2;");
        chance(x, 2, 0, 0, 1);
        chance(x, 3, 0, 1, 1);
        x.hold(1);
        chance(x, 6, 0, 0, 1);
        x.hold(0);
        chance(x, 6, 0, 0, 1);
        x.pass(2);
        chance(x, 2, 0, 1, 1);
        chance(x, 2, 5, 1, 4);
        x.start(0, 3);
        chance(x, 3, 0, 0, 1);
        chance(x, 4, 0, 1, 1);
        Due.is("held as told", x.where(0, 60, 0), 0);
    }

    /** Of each platform there is, and no other one is held or let go with it. */
    private static void floodsOfEach() {
        for (int p = 0; p < 5; p++) {
            PlatformsLeave x = Due.laid("n24;t2;t6;t10;t14;t18;p0,0,0,0;p0,4,0,0;p0,8,0,0;p0,12,0,0;p0,16,0,0;");
            for (int times = 0; times < 2; times++) {
                Due.is("above of " + p, x.floods(p, p, 3, 3, 0), 98);
                Due.is("below of " + p, x.floods(p, p, 3, 3, 1), 125);
                Due.is("at the next one's", x.floods(p, (p + 1) % 5, 5, 0, 0), 0);
                x.hold(p);
            }
        }
    }

    /** "A DAY by z (0 to 9999)". */
    private static void daysOfZ() {
        PlatformsLeave x = Due.laid("n9;t2;t7;p0,0,0,0;p0,3,1,0;p3,6,0,0;");
        int[] bad = {-2, -1, 10000, 10001, Integer.MAX_VALUE, Integer.MIN_VALUE};
        for (int z : bad) {
            Due.is("day " + z, x.day(z, 0), BAD);
            Due.is("day " + z, x.day(z, 1), BAD);
        }
        int[] good = {0, 1, 9998, 9999};
        for (int z : good) {
            Due.is("waits by " + z, waitsByStarts(x, z), x.day(z, 0));
            Due.is("twos by " + z, x.day(z, 1) >= 0 && x.day(z, 1) <= 6 ? 1 : 0, 1);
        }
        Due.is("what 2", x.day(0, 2), BAD);
        Due.is("what -1", x.day(0, -1), BAD);
    }

    private static int waitsByStarts(PlatformsLeave x, int z) {
        int waits = 0;
        for (int p = 0; p < x.count(2); p++) x.start(p, draw(z, p) % 31);
        for (int p = 0; p < x.count(2); p++) waits += x.where(p, 60, 1);
        return waits;
    }

    /** "((x times x) modulo 65521) by 8, cut, x 7919 z, 331 i and 1 together". */
    private static int draw(int z, int i) {
        java.math.BigInteger x = java.math.BigInteger.valueOf(7919).multiply(java.math.BigInteger.valueOf(z))
                .add(java.math.BigInteger.valueOf(331L * i + 1));
        return x.multiply(x).mod(java.math.BigInteger.valueOf(65521)).intValue() / 8;
    }

    private static int dayWithStart(int start) {
        for (int z = 0; z < 10000; z++) {
            if (draw(z, 0) % 31 == start) return z;
        }
        return -1;
    }

    /** "a start of DRAW modulo 31": each from 0 to 30, seen by how often one waits that never gets on. */
    private static void dayStarts() {
        PlatformsLeave x = Due.laid("n24;p0,0,0,7;p0,1,0,7;");
        x.hold(1);
        for (int start = 0; start <= 30; start++) {
            Due.is("waits by a start of " + start, x.day(dayWithStart(start), 0), 61 - Math.max(1, start));
        }
        for (int z = 0; z < 10000; z += 271) {
            Due.is("waits by day " + z, x.day(z, 0), 61 - Math.max(1, draw(z, 0) % 31));
        }
    }

    /** "AT the second at the end of some step (0 to 60)", and waits in step 60. */
    private static void dayStep0AndStep60() {
        int z = dayWithStart(30);
        PlatformsLeave x = Due.laid("n24;t0;t15;t16;p1,0,0,0;");
        Due.is("in 0, 58, 60", x.day(z, 1), 3);
        Due.is("not in 60", Due.laid("n24;t17;t18;p1,0,0,0;").day(z, 1), 0);
        Due.is("in 0 alone", Due.laid("n24;t0;t20;p1,0,0,0;").day(z, 1), 1);
        PlatformsLeave leaves = Due.laid("n24;t0;p0,0,0,7;p0,12,0,0;");
        leaves.hold(1);
        Due.is("in 0, and in no other step", leaves.day(dayWithStart(1), 1), 1);
        Due.is("in 0 by a start of 0", leaves.day(dayWithStart(0), 1), 1);
        x = Due.laid("n24;p1,0,0,0;p0,16,0,0;");
        x.hold(1);
        Due.is("waits in 60", x.day(z, 0), 1);
        x = Due.laid("n24;p1,0,0,0;p0,17,0,0;");
        x.hold(1);
        Due.is("waits not", x.day(z, 0), 0);
    }

    /** One that is held is at its train for all that, and never waits; the twos are all of both. */
    private static void dayOfHeld() {
        PlatformsLeave x = Due.laid("n9;t0;t0;t4;p0,0,0,0;p0,4,0,0;");
        x.hold(0);
        x.hold(1);
        Due.is("twos", x.day(5, 1), 3);
        Due.is("waits", x.day(5, 0), 0);
        PlatformsLeave most = Due.laid("n24;t0;t1;t2;t3;t4;p0,0,0,0;p0,5,0,0;p0,10,0,0;p0,15,0,0;p0,20,0,0;");
        for (int c = 0; c < 24; c++) most.pass(c);
        Due.is("all twos", most.day(77, 1), 25);
        Due.is("none", Due.laid("n9;p0,0,0,0;").day(5, 1), 0);
    }
}
