/** Promises 24 and 25: floods, day. */
public final class FloodsTest {
    private static final int BAD = PlatformsLeave.BAD, NONE = PlatformsLeave.NONE;

    public static void main(String[] args) {
        chances();
        heldOrNot();
        laterPlatform();
        milkInFlood();
        wrongFloods();
        draws();
        days();
        Due.end();
    }

    private static void chance(PlatformsLeave x, int t, int n, int of, int above, int below) {
        Due.is("above " + t + " " + n + " " + of, x.floods(0, t, n, of, 0), above);
        Due.is("below " + t + " " + n + " " + of, x.floods(0, t, n, of, 1), below);
    }

    private static void chances() {
        PlatformsLeave x = Due.laid("n10;t2;t0;p0,0,0,0;");
        chance(x, 0, 2, 5, 1, 4);
        chance(x, 0, 3, 5, 1, 2);
        chance(x, 0, 3, 3, 98, 125);
        chance(x, 0, 1, 5, 0, 1);
        chance(x, 0, 6, 10, 0, 1);
        chance(x, 0, 2, 0, 1, 1);
        chance(x, 0, 0, 0, 0, 1);
        chance(x, 0, 6, 9, 22853, 200000);
        chance(x, 1, 0, 10, 0, 1);
        chance(x, 1, 1, 3, 3, 10);
        chance(x, 1, 6, 0, 0, 1);
        chance(x, 1, 6, 10, 1, 1);
        chance(Due.laid("n10;t1;p0,0,0,3;"), 0, 2, 2, 0, 1);
        chance(Due.laid("n10;t1;p0,0,0,3;"), 0, 3, 2, 4, 5);
        chance(Due.laid("n10;t4;p4,0,0,0;"), 0, 2, 5, 1, 4);
    }

    private static void heldOrNot() {
        PlatformsLeave x = Due.laid("n10;t2;p0,0,0,0;p0,1,0,0;");
        chance(x, 0, 3, 0, 1, 1);
        x.hold(0);
        chance(x, 0, 3, 0, 1, 1);
        x.hold(1);
        chance(x, 0, 6, 0, 0, 1);
        Due.is("held as before", x.count(4), 2);
        Due.is("held as before", x.where(0, 60, 0), 0);
    }

    private static void laterPlatform() {
        PlatformsLeave x = Due.laid("n10;t5;t2;p0,0,0,0;p0,1,0,0;p0,3,0,0;");
        for (int times = 0; times < 2; times++) {
            Due.is("above of 2", x.floods(2, 0, 3, 3, 0), 98);
            Due.is("below of 2", x.floods(2, 0, 3, 3, 1), 125);
            Due.is("above of 1", x.floods(1, 1, 2, 9, 0), 19);
            Due.is("below of 1", x.floods(1, 1, 2, 9, 1), 100);
            x.hold(2);
        }
    }

    private static void milkInFlood() {
        PlatformsLeave x = Due.laid("n10;t1;t2;p2,0,0,0;");
        chance(x, 1, 3, 5, 1, 4);
        chance(x, 1, 4, 5, 1, 2);
    }

    private static void wrongFloods() {
        PlatformsLeave x = Due.laid("n10;t2;p0,0,0,0;");
        int[][] bad = {{-1, 0, 1, 1, 0}, {1, 0, 1, 1, 0}, {0, -1, 1, 1, 0}, {0, 1, 1, 1, 0}, {0, 0, -1, 1, 0},
            {0, 0, 7, 1, 0}, {0, 0, 1, -1, 0}, {0, 0, 1, 11, 0}, {0, 0, 1, 1, -1}, {0, 0, 1, 1, 2},
            {Integer.MAX_VALUE, 0, 1, 1, 0}, {0, Integer.MIN_VALUE, 1, 1, 0}, {0, 0, Integer.MAX_VALUE, 1, 0},
            {0, 0, 1, Integer.MIN_VALUE, 0}};
        for (int[] c : bad) Due.is("bad floods", x.floods(c[0], c[1], c[2], c[3], c[4]), BAD);
    }

    /** By z = 0 the draws are 1 by 8, and 332 times 332 modulo 65521 by 8: starts of 0 and 7. */
    private static void draws() {
        PlatformsLeave x = Due.laid("n24;t1;t2;t9;p0,0,0,20;p0,1,0,20;");
        Due.is("waits by day 0", x.day(0, 0), 7);
        Due.is("twos by day 0", x.day(0, 1), 6);
        Due.is("its own start stays", x.platform(0, 3), 20);
        PlatformsLeave left = Due.laid("n10;t0;t2;p0,0,0,0;p0,2,0,0;");
        left.hold(1);
        Due.is("at the train in step 0 alone", left.day(0, 1), 2);
        PlatformsLeave none = Due.laid("n24;p0,0,0,0;");
        Due.is("no train", none.day(0, 1), 0);
        Due.is("nobody waits", none.day(0, 0), 0);
    }

    private static void days() {
        String text = "n15;t2;t6;t9;t13;a0;a7;p4,0,1,0;p0,0,0,2;p3,4,0,1;p2,10,1,0;p1,14,0,5;";
        PlatformsLeave x = Due.laid(text);
        int[] some = {0, 1, 2, 3, 10, 99, 500, 1234, 2500, 7777, 9998, 9999};
        for (int z : some) sameAsChanged(x, z);
        x.hold(4);
        x.pass(14);
        x.pass(9);
        for (int z : some) sameAsChanged(x, z);
        int[] bad = {-1, 10000, Integer.MAX_VALUE, Integer.MIN_VALUE};
        for (int z : bad) Due.is("bad day", x.day(z, 0), BAD);
        Due.is("bad day what", x.day(0, 2), BAD);
        Due.is("bad day what", x.day(0, -1), BAD);
    }

    private static void sameAsChanged(PlatformsLeave x, int z) {
        int waits = x.day(z, 0);
        int twos = x.day(z, 1);
        x.keep();
        for (int i = 0; i < x.count(2); i++) {
            long number = 7919L * z + 331L * i + 1;
            long draw = java.math.BigInteger.valueOf(number).pow(2).mod(java.math.BigInteger.valueOf(65521)).longValue() / 8;
            x.start(i, (int) (draw % 31));
        }
        for (int i = 0; i < x.count(2); i++) {
            waits -= x.where(i, 60, 1);
            for (int t = 0; t < x.count(1); t++) twos -= x.first(i, t) == NONE ? 0 : 1;
        }
        x.back();
        Due.is("waits by day " + z, waits, 0);
        Due.is("twos by day " + z, twos, 0);
    }
}
