/** Promises 13 to 15: where, first, hang. */
public final class StepsTest {
    private static final int BAD = PlatformsLeave.BAD, NONE = PlatformsLeave.NONE;

    public static void main(String[] args) {
        plain();
        slow();
        milk();
        express();
        oneBehindTheOther();
        passingPlaces();
        polite();
        held();
        wet();
        wrongInputs();
        first();
        hang();
        Due.end();
    }

    /** In which cells a platform is at the ends of steps 0, 1, ... */
    private static void cells(String text, int p, int... due) {
        PlatformsLeave x = Due.laid(text);
        for (int s = 0; s < due.length; s++) Due.is(text + " cell of " + p + " in " + s, x.where(p, s, 0), due[s]);
    }

    private static void waits(String text, int p, int... due) {
        PlatformsLeave x = Due.laid(text);
        for (int s = 0; s < due.length; s++) Due.is(text + " waits of " + p + " to " + s, x.where(p, s, 1), due[s]);
    }

    private static void wets(String text, int p, int... due) {
        PlatformsLeave x = Due.laid(text);
        for (int s = 0; s < due.length; s++) Due.is(text + " wet " + p + " to " + s, x.where(p, s, 2), due[s]);
    }

    private static void plain() {
        PlatformsLeave up = Due.laid("n10;p0,3,0,0;");
        PlatformsLeave down = Due.laid("n10;p0,3,1,1;");
        for (int s = 0; s <= 60; s++) {
            Due.is("up", up.where(0, s, 0), (3 + s) % 10);
            Due.is("down", down.where(0, s, 0), (63 - s) % 10);
            Due.is("up waits", up.where(0, s, 1), 0);
        }
        cells("n4;p0,3,0,0;", 0, 3, 0, 1, 2, 3);
        cells("n24;p0,0,1,0;", 0, 0, 23, 22, 21);
        cells("n10;p0,0,0,5;", 0, 0, 0, 0, 0, 0, 1, 2);
        PlatformsLeave late = Due.laid("n10;p0,0,0,30;");
        Due.is("late 29", late.where(0, 29, 0), 0);
        Due.is("late 30", late.where(0, 30, 0), 1);
        Due.is("late 60", late.where(0, 60, 0), 1);
        late.start(0, 28);
        Due.is("changed 29", late.where(0, 29, 0), 2);
    }

    private static void slow() {
        cells("n10;p1,0,0,0;", 0, 0, 0, 1, 1, 2, 2, 3, 3, 4);
        cells("n10;p1,0,0,3;", 0, 0, 0, 0, 0, 1, 1, 2);
        cells("n10;p1,0,1,4;", 0, 0, 0, 0, 0, 9, 9, 8);
        waits("n10;p1,0,0,0;p0,1,0,30;", 0, 0, 0, 1, 1, 2, 2, 3);
    }

    private static void milk() {
        cells("n10;t2;p2,0,0,0;", 0, 0, 1, 2, 2, 3, 4, 5, 6, 7, 8, 9, 0, 1, 2, 2, 3);
        cells("n10;t0;p2,0,0,0;", 0, 0, 1, 2);
        cells("n10;t1;t2;p2,0,0,0;", 0, 0, 1, 1, 2, 2, 3, 4);
        cells("n10;t9;t9;p2,0,1,2;", 0, 0, 0, 9, 9, 8);
        waits("n10;t2;p2,0,0,0;p0,3,0,30;", 0, 0, 0, 0, 0, 1, 2, 3);
        cells("n10;t2;p0,0,0,0;", 0, 0, 1, 2, 3);
    }

    private static void express() {
        cells("n10;p4,0,0,0;", 0, 0, 2, 4, 6, 8, 0);
        cells("n5;p4,0,1,0;", 0, 0, 3, 1, 4, 2, 0);
        cells("n10;t1;p4,0,0,0;", 0, 0, 2, 4);
        String halfway = "n10;p4,0,0,0;p0,2,0,30;";
        cells(halfway, 0, 0, 1, 1, 1);
        waits(halfway, 0, 0, 1, 2, 3);
        PlatformsLeave x = Due.laid(halfway);
        int[][] due = {{29, 1, 29}, {30, 1, 30}, {31, 2, 31}, {32, 3, 32}, {60, 1, 60}};
        for (int[] row : due) {
            Due.is("halfway in " + row[0], x.where(0, row[0], 0), row[1]);
            Due.is("halfway waits " + row[0], x.where(0, row[0], 1), row[2]);
        }
        cells("n10;a1;p4,0,0,0;p0,1,0,30;", 0, 0, 2, 4);
        cells("n10;p4,0,0,0;p0,1,0,30;", 0, 0, 0, 0);
    }

    private static void oneBehindTheOther() {
        String behind = "n10;p0,0,0,0;p0,1,0,0;";
        cells(behind, 0, 0, 0, 1, 2, 3);
        waits(behind, 0, 0, 1, 1, 1, 1);
        cells(behind, 1, 1, 2, 3, 4);
        String ahead = "n10;p0,1,0,0;p0,0,0,0;";
        cells(ahead, 1, 0, 1, 2, 3);
        waits(ahead, 1, 0, 0, 0, 0);
        String facing = "n10;p0,3,0,0;p0,4,1,0;";
        cells(facing, 0, 3, 3, 3, 3);
        waits(facing, 0, 0, 1, 2, 3);
        waits(facing, 1, 0, 1, 2, 3);
    }

    private static void passingPlaces() {
        cells("n10;a5;p0,4,0,0;p0,5,0,30;", 0, 4, 5, 6, 7);
        PlatformsLeave x = Due.laid("n10;a5;p0,4,0,0;p0,5,0,30;p0,5,0,30;");
        Due.is("two others there", x.where(0, 1, 0), 4);
        Due.is("waits", x.where(0, 30, 1), 30);
        Due.is("no more", x.where(0, 31, 1), 30);
        Due.is("in", x.where(0, 31, 0), 5);
        Due.is("two from one cell: the first goes", x.where(1, 30, 0), 6);
        Due.is("the second waits", x.where(2, 30, 0), 5);
        Due.is("once", x.where(2, 60, 1), 1);
        String facing = "n10;a4;p0,3,0,0;p0,4,1,0;";
        cells(facing, 0, 3, 4, 5, 6);
        cells(facing, 1, 4, 3, 2, 1);
        x = Due.laid("n10;p0,3,0,0;p0,4,1,0;");
        x.pass(4);
        Due.is("a laid one", x.where(0, 1, 0), 4);
        x.pass(4);
        Due.is("taken away", x.where(0, 1, 0), 3);
    }

    private static void polite() {
        String turns = "n10;p3,0,0,0;p0,3,0,30;";
        cells(turns, 0, 0, 1, 2, 2, 1, 0, 9, 8, 7, 6, 5, 4, 4, 5, 6);
        waits(turns, 0, 0, 0, 0, 1, 1, 1, 1, 1, 1, 1, 1, 1, 2, 2, 2);
        cells("n10;p3,3,1,0;p0,2,0,30;", 0, 3, 3, 4, 5);
        Due.is("down at first", Due.laid(turns).platform(0, 2), 0);
    }

    private static void held() {
        PlatformsLeave x = Due.laid("n10;p0,0,0,0;p0,3,0,0;");
        x.hold(1);
        Due.is("held", x.where(1, 60, 0), 3);
        Due.is("held ones wait not", x.where(1, 60, 1), 0);
        Due.is("blocked", x.where(0, 60, 0), 2);
        Due.is("waits", x.where(0, 60, 1), 58);
        x.hold(1);
        Due.is("let go", x.where(1, 1, 0), 4);
    }

    private static void wet() {
        wets("n10;w0;w1;p0,0,0,0;", 0, 0, 1, 1, 1, 1, 1, 1, 1, 1, 1, 2, 3, 3);
        wets("n10;a1;w1;p0,1,0,30;p0,0,0,0;", 0, 0, 0, 1, 2, 3);
        wets("n10;a1;w1;p0,1,0,30;p0,0,0,0;", 1, 0, 0, 0);
        wets("n10;w1;p4,0,0,0;", 0, 0, 0, 0);
        wets("n10;w7;p0,7,0,4;", 0, 0, 1, 2, 3, 3);
        wets("n10;w7;p0,6,0,0;p0,8,0,30;", 0, 0, 1, 2, 3);
        wets("n10;w7;w7;p0,6,0,0;", 0, 0, 1, 1);
        PlatformsLeave x = Due.laid("n10;w7;p0,7,0,0;");
        x.hold(0);
        Due.is("held in rain", x.where(0, 60, 2), 60);
    }

    private static void wrongInputs() {
        PlatformsLeave x = Due.laid("n10;t4;p0,0,0,0;p0,5,0,0;");
        int[][] bad = {{-1, 0, 0}, {2, 0, 0}, {5, 0, 0}, {0, -1, 0}, {0, 61, 0}, {0, 0, -1}, {0, 0, 3},
            {Integer.MIN_VALUE, 0, 0}, {0, Integer.MAX_VALUE, 0}, {0, 0, Integer.MIN_VALUE}};
        for (int[] call : bad) Due.is("bad where", x.where(call[0], call[1], call[2]), BAD);
        int[][] none = {{-1, 0}, {2, 0}, {0, -1}, {0, 1}, {Integer.MAX_VALUE, 0}, {0, Integer.MIN_VALUE}};
        for (int[] call : none) Due.is("bad first", x.first(call[0], call[1]), BAD);
    }

    private static void first() {
        PlatformsLeave x = Due.laid("n10;t0;t4;p0,0,0,0;p0,5,1,0;");
        Due.is("at the end of step 0", x.first(0, 0), 0);
        Due.is("in step 4, blocked", x.first(0, 1), NONE);
        Due.is("in step 1", x.first(1, 1), 1);
        x.start(0, 30);
        Due.is("comes round", x.first(1, 0), NONE);
        x.pass(0);
        Due.is("into the passing place", x.first(1, 0), 5);
        PlatformsLeave last = Due.laid("n24;t16;t17;t15;p1,0,0,30;");
        Due.is("in step 60", last.first(0, 0), 60);
        Due.is("not in 60", last.first(0, 1), NONE);
        Due.is("in step 58", last.first(0, 2), 58);
        Due.is("through it, not at it", Due.laid("n10;t1;p4,0,0,0;").first(0, 0), NONE);
    }

    private static void hangs(String text, int hold, int due) {
        PlatformsLeave x = Due.laid(text);
        x.hold(hold);
        Due.is("hang " + text, x.hang(), due);
    }

    private static void hang() {
        hangs("n10;p0,0,0,0;p0,5,0,0;", 1, 1);
        hangs("n10;p0,0,0,30;p0,2,0,0;", 1, 1);
        hangs("n10;p0,0,0,30;p0,3,0,0;", 1, 0);
        hangs("n24;p1,0,0,0;p0,16,0,0;", 1, 1);
        hangs("n24;p1,0,0,0;p0,17,0,0;", 1, 0);
        hangs("n10;p0,0,0,0;", 0, 0);
        hangs("n10;p0,5,0,0;p0,0,0,0;p0,2,1,0;p0,7,1,0;p0,6,1,0;", 0, 30);
        PlatformsLeave x = Due.laid("n10;p0,0,0,0;p0,1,0,0;");
        Due.is("both go", x.hang(), 0);
        x.hold(1);
        Due.is("one goes nowhere at all", x.hang(), 1);
        x.hold(0);
        Due.is("both held", x.hang(), 0);
        Due.is("round and round", Due.laid("n4;p4,0,0,0;").hang(), 0);
        Due.is("polite ones", Due.laid("n4;p3,0,0,0;p3,1,0,0;p3,2,0,0;p3,3,0,0;").hang(), 15);
        Due.is("facing", Due.laid("n10;p0,3,0,0;p0,4,1,0;p3,5,0,0;").hang(), 3);
    }
}
