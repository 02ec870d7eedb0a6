/** Promises 6, 7, 8 and 28: platform, train, cell, count. */
public final class LineTest {
    private static final int BAD = PlatformsLeave.BAD;

    public static void main(String[] args) {
        PlatformsLeave x = Due.laid("n24;t23;t0;a5;w6;w23;p1,4,1,17;p4,23,0,30;");
        platforms(x);
        trains(x);
        cells(x);
        counts();
        Due.end();
    }

    private static void platforms(PlatformsLeave x) {
        int[][] due = {{1, 4, 1, 17, 0}, {4, 23, 0, 30, 0}};
        for (int p = 0; p < 2; p++) {
            for (int what = 0; what < 5; what++) Due.is("platform " + p + " " + what, x.platform(p, what), due[p][what]);
            Due.is("platform what 5", x.platform(p, 5), BAD);
            Due.is("platform what -1", x.platform(p, -1), BAD);
        }
        int[] none = {-1, 2, 5, Integer.MAX_VALUE, Integer.MIN_VALUE};
        for (int p : none) Due.is("platform " + p, x.platform(p, 0), BAD);
        x.start(0, 3);
        x.hold(0);
        Due.is("changed start", x.platform(0, 3), 3);
        Due.is("now held", x.platform(0, 4), 1);
        Due.is("the other not", x.platform(1, 4), 0);
        x.hold(0);
        Due.is("let go", x.platform(0, 4), 0);
    }

    private static void trains(PlatformsLeave x) {
        Due.is("train 0", x.train(0), 23);
        Due.is("train 1", x.train(1), 0);
        int[] none = {-1, 2, 5, Integer.MAX_VALUE, Integer.MIN_VALUE};
        for (int t : none) Due.is("train " + t, x.train(t), BAD);
    }

    private static void cells(PlatformsLeave x) {
        for (int c = 0; c < 24; c++) {
            Due.is("passing " + c, x.cell(c, 0), c == 5 ? 1 : 0);
            Due.is("rain " + c, x.cell(c, 1), c == 6 || c == 23 ? 1 : 0);
        }
        int[] none = {-1, 24, Integer.MAX_VALUE, Integer.MIN_VALUE};
        for (int c : none) Due.is("cell " + c, x.cell(c, 0), BAD);
        Due.is("cell what 2", x.cell(0, 2), BAD);
        Due.is("cell what -1", x.cell(0, -1), BAD);
        x.pass(5);
        x.pass(23);
        Due.is("taken away", x.cell(5, 0), 0);
        Due.is("laid", x.cell(23, 0), 1);
        Due.is("rain stays", x.cell(23, 1), 1);
        PlatformsLeave small = Due.laid("n4;p0,0,0,0;");
        Due.is("cell 3 of 4", small.cell(3, 0), 0);
        Due.is("cell 4 of 4", small.cell(4, 0), BAD);
    }

    private static void counts() {
        PlatformsLeave x = Due.laid("n7;t1;t1;t2;a3;a3;a4;p0,3,0,0;p0,3,0,0;p2,1,0,0;");
        int[] due = {7, 3, 3, 2, 0, 0, 0, 0, 48};
        for (int what = 0; what < 9; what++) Due.is("count " + what, x.count(what), due[what]);
        x.hold(0);
        x.hold(2);
        x.pass(6);
        x.came(0, 1, true);
        x.came(0, 1, true);
        x.keep();
        int[] then = {7, 3, 3, 3, 2, 2, 3, 1, 48};
        for (int what = 0; what < 9; what++) Due.is("then count " + what, x.count(what), then[what]);
        int[] bad = {-1, 9, Integer.MAX_VALUE, Integer.MIN_VALUE};
        for (int what : bad) Due.is("count " + what, x.count(what), BAD);
    }
}
