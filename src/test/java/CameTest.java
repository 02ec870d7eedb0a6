/** Promises 19 to 23: came, forget, fits, from, clocks. */
public final class CameTest {
    private static final int BAD = PlatformsLeave.BAD, FULL = PlatformsLeave.FULL, NONE = PlatformsLeave.NONE;
    private static final int ALL = Integer.MAX_VALUE;

    public static void main(String[] args) {
        came();
        fits();
        from();
        fromByRound();
        clocks();
        Due.end();
    }

    private static void came() {
        PlatformsLeave x = Due.laid("n10;t3;t5;p0,0,0,0;");
        Due.is("forget of nothing", x.forget(), 0);
        int[][] bad = {{-1, 1}, {2, 1}, {0, 0}, {0, 61}, {0, -1}, {Integer.MAX_VALUE, 1}, {0, Integer.MIN_VALUE}};
        for (int[] call : bad) Due.is("bad came", x.came(call[0], call[1], true), BAD);
        for (int many = 1; many <= 6; many++) Due.is("came", x.came(many % 2, many == 1 ? 60 : 1, many > 3), many);
        Due.is("no seventh", x.came(0, 1, true), FULL);
        Due.is("bad ahead of full", x.came(2, 1, true), BAD);
        Due.is("told", x.count(5), 6);
        Due.is("forget", x.forget(), 6);
        Due.is("nothing told", x.count(5), 0);
        Due.is("came again", x.came(0, 1, true), 1);
        x.start(0, 4);
        Due.is("came stays", x.count(5), 1);
        Due.is("no change", x.count(6), 1);
    }

    private static void fits() {
        PlatformsLeave x = Due.laid("n10;t3;p0,0,0,0;");
        Due.is("nothing came", x.fits(0), ALL);
        x.came(0, 5, true);
        Due.is("in step 5", x.fits(0), 1 << 3);
        x.came(0, 15, true);
        Due.is("in step 15 too", x.fits(0), 1 << 3);
        x.came(0, 16, false);
        Due.is("not in step 16", x.fits(0), 1 << 3);
        x.came(0, 6, true);
        Due.is("nor both", x.fits(0), 0);
        x.forget();
        x.came(0, 5, false);
        Due.is("not in step 5", x.fits(0), ALL - (1 << 3));
        x.forget();
        x.came(0, 33, true);
        Due.is("in step 33", x.fits(0), 1 << 0 | 1 << 1 | 1 << 11 | 1 << 21);
        x.came(0, 60, false);
        Due.is("and not in step 60", x.fits(0), 1 << 0 | 1 << 1 | 1 << 11 | 1 << 21);
        x.came(0, 60, true);
        Due.is("and in step 60", x.fits(0), 0);
        Due.is("its own start stays", x.platform(0, 3), 0);
        severalTrains();
        someOther();
        int[] bad = {-1, 1, Integer.MAX_VALUE, Integer.MIN_VALUE};
        for (int p : bad) Due.is("bad fits", x.fits(p), BAD);
    }

    private static void severalTrains() {
        PlatformsLeave x = Due.laid("n10;t3;t1;t5;p0,0,0,0;");
        x.came(1, 1, true);
        Due.is("in step 1 at train 1", x.fits(0), 0b11);
        x.came(2, 1, false);
        x.came(2, 5, true);
        Due.is("in step 5 at train 2", x.fits(0), 0b11);
        x.came(0, 5, true);
        Due.is("not at train 0 too", x.fits(0), 0);
        x.forget();
        x.came(2, 7, true);
        Due.is("in step 7 at train 2", x.fits(0), 1 << 3);
        x.came(1, 1, true);
        Due.is("the earlier one told later", x.fits(0), 0);
    }

    private static void someOther() {
        PlatformsLeave x = Due.laid("n10;t3;p0,0,0,0;p0,3,0,30;");
        x.came(0, 5, true);
        Due.is("some other one was", x.fits(0), ALL);
        x.forget();
        x.came(0, 5, false);
        Due.is("none was", x.fits(0), 0);
        x.hold(0);
        Due.is("the other goes", x.fits(1), 0b111111);
        x.start(1, 5);
        Due.is("by its changed start", x.fits(0), ALL);
    }

    private static void from(String text, int s, int up, int by) {
        PlatformsLeave x = Due.laid(text);
        Due.is("from in " + s + " " + text, x.from(0, 0, s, 0), up);
        Due.is("from by " + s + " " + text, x.from(0, 0, s, 1), by);
    }

    private static void from() {
        from("n10;t7;p0,0,0,0;", 0, 7, BAD);
        from("n10;t7;p0,0,0,0;", 1, 6, 101);
        from("n10;t7;p0,0,0,0;", 7, 0, 101);
        from("n10;t7;p0,0,0,0;", 8, 9, 101);
        from("n10;t7;p0,0,0,0;", 60, 7, 101);
        from("n10;t7;p0,0,0,0;", 61, BAD, BAD);
        from("n10;t7;p0,0,0,0;", -1, BAD, BAD);
        from("n10;t7;p0,0,1,0;", 1, 8, 99);
        from("n10;t7;p0,0,1,0;", 3, 0, 99);
        from("n10;t7;p0,0,1,2;", 1, 7, 100);
        from("n10;t0;p0,5,0,9;", 1, 5, 100);
        PlatformsLeave x = Due.laid("n10;t7;p0,0,0,0;");
        int[][] bad = {{-1, 0, 1, 0}, {1, 0, 1, 0}, {0, -1, 1, 0}, {0, 1, 1, 0}, {0, 0, 1, 2}, {0, 0, 1, -1},
            {0, 0, Integer.MAX_VALUE, 0}, {0, 0, Integer.MIN_VALUE, 1}, {0, 0, 0, Integer.MIN_VALUE}};
        for (int[] call : bad) Due.is("bad from", x.from(call[0], call[1], call[2], call[3]), BAD);
    }

    private static void fromByRound() {
        for (int s = 1; s <= 4; s++) {
            from("n4;t0;p4,0,0,0;", s, s % 2 == 0 ? 0 : 2, 102);
            from("n4;t0;p4,0,1,0;", s, s % 2 == 0 ? 0 : 2, 102);
        }
        int[] up = {0, 3, 1, 4, 2, 0};
        for (int s = 1; s <= 5; s++) {
            from("n5;t0;p4,0,0,0;", s, up[s], 102);
            from("n5;t0;p4,0,1,0;", s, up[5 - s], 98);
        }
        from("n24;t3;p4,4,1,0;", 1, 1, 98);
    }

    private static void clocks(PlatformsLeave x, int p, int q, int often, int earliest) {
        Due.is("clocks often", x.clocks(p, q, 0), often);
        Due.is("clocks first", x.clocks(p, q, 1), earliest);
        Due.is("the other way round", x.clocks(q, p, 0), often);
    }

    private static void clocks() {
        clocks(Due.laid("n10;a5;p0,4,0,0;p0,5,0,3;"), 0, 1, 1, 1);
        clocks(Due.laid("n10;a5;p0,5,0,0;p0,5,0,0;"), 0, 1, 1, 0);
        clocks(Due.laid("n10;p0,4,0,0;p0,5,0,3;"), 0, 1, 0, NONE);
        PlatformsLeave x = Due.laid("n10;a5;p0,5,0,0;p0,5,0,0;p0,0,0,0;");
        x.hold(0);
        x.hold(1);
        clocks(x, 0, 1, 61, 0);
        x.hold(1);
        x.start(1, 30);
        clocks(x, 0, 1, 33, 0);
        int[][] bad = {{0, 0, 0}, {1, 1, 1}, {-1, 0, 0}, {0, -1, 0}, {3, 0, 0}, {0, 3, 0}, {0, 1, 2}, {0, 1, -1},
            {Integer.MAX_VALUE, 0, 0}, {0, Integer.MIN_VALUE, 0}};
        for (int[] call : bad) Due.is("bad clocks", x.clocks(call[0], call[1], call[2]), BAD);
    }
}
