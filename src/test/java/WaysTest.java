/** Promises 16 to 18: trip, best, places. */
public final class WaysTest {
    private static final int BAD = PlatformsLeave.BAD, NONE = PlatformsLeave.NONE;

    public static void main(String[] args) {
        oneWay();
        changing();
        changingAtOnce();
        five();
        oneCell();
        lastStep();
        wrongTrips();
        best();
        wrongBest();
        places();
        Due.end();
    }

    private static void trip(PlatformsLeave x, int a, int b, int step, int often) {
        Due.is("trip " + a + " " + b, x.trip(a, b, 0), step);
        Due.is("trip " + a + " " + b + " often", x.trip(a, b, 1), often);
    }

    private static void oneWay() {
        PlatformsLeave x = Due.laid("n10;t2;t5;t8;p0,0,0,0;");
        trip(x, 0, 1, 5, 1);
        trip(x, 0, 2, 8, 1);
        trip(x, 1, 0, 12, 1);
        trip(x, 2, 1, 15, 1);
        x.hold(0);
        trip(x, 0, 1, NONE, NONE);
    }

    private static void changing() {
        PlatformsLeave x = Due.laid("n12;a5;t1;t5;t4;p4,1,0,0;p0,6,1,20;p0,7,0,0;");
        x.hold(2);
        trip(x, 0, 1, 2, 1);
        trip(x, 0, 2, 21, 2);
        trip(x, 1, 2, 21, 1);
        trip(x, 2, 0, 24, 1);
        trip(x, 2, 1, NONE, NONE);
        PlatformsLeave fewer = Due.laid("n12;a5;t1;t5;t10;p0,1,0,0;p0,6,1,20;p0,7,0,0;");
        fewer.hold(2);
        trip(fewer, 0, 2, 27, 1);
    }

    /** Off a platform, and onto another one in the same step. */
    private static void changingAtOnce() {
        PlatformsLeave x = Due.laid("n12;a5;t1;t5;t8;p0,5,0,5;p0,1,0,0;");
        trip(x, 0, 1, 4, 1);
        trip(x, 0, 2, 7, 2);
        trip(x, 1, 2, 7, 1);
        PlatformsLeave none = Due.laid("n12;a5;t1;t4;t8;p0,5,0,5;p0,1,0,0;");
        trip(none, 0, 2, 8, 1);
    }

    private static void five() {
        PlatformsLeave x = Due.laid("n20;t1;t4;t8;t12;t16;p0,0,0,0;p0,3,0,0;p0,7,0,0;p0,11,0,0;p0,15,0,0;");
        trip(x, 0, 4, 16, 1);
        trip(x, 4, 0, 6, 1);
        trip(x, 3, 4, 5, 1);
        trip(x, 4, 3, 17, 1);
    }

    private static void oneCell() {
        PlatformsLeave x = Due.laid("n10;t3;t3;t5;p0,3,0,30;");
        trip(x, 0, 1, 0, 1);
        trip(x, 1, 0, 0, 1);
        trip(x, 0, 2, 31, 1);
        x = Due.laid("n10;t3;t3;p0,1,0,0;");
        trip(x, 0, 1, 2, 1);
        x.hold(0);
        trip(x, 0, 1, NONE, NONE);
    }

    private static void lastStep() {
        PlatformsLeave x = Due.laid("n24;t0;t16;t17;p1,0,0,30;");
        trip(x, 0, 1, 60, 1);
        trip(x, 0, 2, NONE, NONE);
    }

    private static void wrongTrips() {
        PlatformsLeave x = Due.laid("n10;t3;t4;p0,0,0,0;");
        int[][] bad = {{0, 0, 0}, {1, 1, 1}, {-1, 0, 0}, {0, -1, 0}, {2, 0, 0}, {0, 2, 0}, {0, 1, 2}, {0, 1, -1},
            {Integer.MAX_VALUE, 0, 0}, {0, Integer.MIN_VALUE, 0}};
        for (int[] call : bad) Due.is("bad trip", x.trip(call[0], call[1], call[2]), BAD);
    }

    private static void best(PlatformsLeave x, int p, int t, int start, int step) {
        int own = x.platform(p, 3);
        Due.is("best start", x.best(p, t, 0), start);
        Due.is("best step", x.best(p, t, 1), step);
        Due.is("its own start stays", x.platform(p, 3), own);
    }

    private static void best() {
        best(Due.laid("n10;t4;p0,0,0,20;"), 0, 0, 1, 4);
        best(Due.laid("n10;t1;p1,0,0,7;"), 0, 0, 2, 2);
        best(Due.laid("n10;t0;p0,0,0,9;"), 0, 0, 30, 0);
        best(Due.laid("n24;t20;p1,0,0,0;"), 0, 0, 2, 40);
        best(Due.laid("n10;t5;p0,0,0,0;p0,3,0,10;"), 0, 0, 9, 13);
        best(Due.laid("n10;t1;p4,0,0,0;"), 0, 0, NONE, NONE);
        PlatformsLeave held = Due.laid("n10;t4;t0;p0,0,0,0;");
        held.hold(0);
        best(held, 0, 0, NONE, NONE);
        best(held, 0, 1, 30, 0);
        PlatformsLeave other = Due.laid("n10;t5;p0,0,0,0;p0,3,0,10;");
        other.start(1, 4);
        best(other, 0, 0, 3, 7);
    }

    private static void wrongBest() {
        PlatformsLeave x = Due.laid("n10;t3;t4;p0,0,0,0;");
        int[][] bad = {{-1, 0, 0}, {1, 0, 0}, {0, -1, 0}, {0, 2, 0}, {0, 0, 2}, {0, 0, -1},
            {Integer.MAX_VALUE, 0, 0}, {0, Integer.MIN_VALUE, 0}};
        for (int[] call : bad) Due.is("bad best", x.best(call[0], call[1], call[2]), BAD);
    }

    private static void places(String text, int holds, int... due) {
        PlatformsLeave x = Due.laid(text);
        for (int p = 0; p < x.count(2); p++) {
            if ((holds >> p & 1) == 1) x.hold(p);
        }
        int laid = x.count(3);
        for (int k = 0; k < 3; k++) Due.is("places " + k + " " + text, x.places(k), due[k]);
        Due.is("none is laid", x.count(3), laid);
        int[] bad = {-1, 3, Integer.MAX_VALUE, Integer.MIN_VALUE};
        for (int k : bad) Due.is("places " + k, x.places(k), BAD);
    }

    private static void places() {
        places("n10;p0,0,0,0;", 0, 0, NONE, NONE);
        places("n10;p0,0,0,0;p0,5,0,0;", 2, 1, 5, NONE);
        places("n10;p0,0,0,0;p0,0,0,0;".replace("p0,0,0,0;p", "a0;p0,0,0,0;p"), 2, 0, NONE, NONE);
        places("n10;a5;p0,0,0,0;p0,5,0,0;", 2, 0, NONE, NONE);
        places("n10;p0,0,0,0;p0,7,0,0;p0,3,0,0;", 6, 2, 3, 7);
        places("n10;p0,0,1,0;p0,7,0,0;p0,3,0,0;", 6, 2, 3, 7);
        places("n10;p0,0,0,0;p0,7,0,0;p0,3,0,0;p0,5,0,0;", 14, NONE, NONE, NONE);
        places("n10;p0,0,0,0;p0,5,1,0;", 0, 2, 3, 8);
        places("n10;a5;p0,0,0,0;p0,5,0,0;p0,5,0,0;", 6, NONE, NONE, NONE);
        places("n10;p0,0,0,0;p0,9,0,0;p0,0,1,0;".replace("p0,0,1", "p0,1,1"), 6, 2, 1, 9);
        places("n24;p0,0,0,0;p0,23,0,0;", 2, 1, 23, NONE);
        places("n24;p0,5,1,0;p0,0,0,0;", 2, 1, 0, NONE);
    }
}
