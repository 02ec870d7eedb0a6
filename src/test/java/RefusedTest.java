/** "Of several the first; nothing changes then": a call that is refused, or only asks, changes nothing. */
public final class RefusedTest {
    private static final int BAD = PlatformsLeave.BAD, NO = PlatformsLeave.NO;
    private static final int FULL = PlatformsLeave.FULL, NONE = PlatformsLeave.NONE;
    private static final int LEAST = Integer.MIN_VALUE, MOST = Integer.MAX_VALUE;

    public static void main(String[] args) {
        Twin full = new Twin(RefusedTest::full);
        seen(full);
        refusedForFull(full);
        badText(full);
        badChanges(full);
        badSteps(full);
        badWays(full);
        badCame(full);
        badFloods(full);
        asking(full);
        none(new Twin(RefusedTest::noneComes));
        empty(new Twin(PlatformsLeave::new));
        Due.end();
    }

    /** 200 letters, 8 changes, 6 that came, 2 kept: 5 cells, 2 trains, 3 platforms, two of them in one cell. */
    private static PlatformsLeave full() {
        String text = "n5;t2;t4;a1;a3;w0;p0,1,0,0;p3,1,1,4;p1,3,0,2;";
        PlatformsLeave x = Due.laid(text);
        while (x.count(8) < 198) x.write(';');
        x.write('t');
        x.write('9');
        for (int many = 0; many < 6; many++) x.came(many % 2, 7 * many + 1, many == 5);
        x.hold(1);
        x.keep();
        x.pass(2);
        x.start(2, 9);
        x.keep();
        for (int many = 0; many < 4; many++) x.start(0, 3 + many);
        x.pass(0);
        x.hold(2);
        x.pass(3);
        return x;
    }

    /** All but one are held, and that one waits for ever: nobody comes to a train, nobody meets. */
    private static PlatformsLeave noneComes() {
        PlatformsLeave x = Due.laid("n9;t2;t7;p0,0,0,0;p0,4,0,0;p0,5,0,0;p0,6,0,0;");
        for (int p = 0; p < 4; p++) x.hold(p);
        x.hold(1);
        x.pass(7);
        return x;
    }

    /** That the trail would see what is changed, were it not refused. */
    private static void seen(Twin full) {
        full.changed("wipe", 200, x -> x.wipe());
        full.changed("start", 6, x -> x.start(0, 30));
        full.changed("start of the same", 6, x -> x.start(0, 6));
        full.changed("hold", 1, x -> x.hold(0));
        full.changed("pass", 1, x -> x.pass(4));
        full.changed("undo", 7, x -> x.undo());
        full.changed("forget", 6, x -> x.forget());
        full.changed("back", 1, x -> x.back());
        Twin none = new Twin(RefusedTest::noneComes);
        none.changed("write", 46, x -> x.write('t'));
        none.changed("came", 1, x -> x.came(0, 1, true));
        none.changed("keep", 1, x -> x.keep());
        none.changed("lay", 4, x -> x.lay());
    }

    private static void refusedForFull(Twin full) {
        full.unchanged("write to 200 letters", FULL, x -> x.write('t'));
        full.unchanged("write of 31 to 200 letters", BAD, x -> x.write(31));
        full.unchanged("write of 127 to 200 letters", BAD, x -> x.write(127));
        full.unchanged("came to 6", FULL, x -> x.came(0, 1, true));
        full.unchanged("came of no train to 6", BAD, x -> x.came(2, 1, true));
        full.unchanged("came in step 0 to 6", BAD, x -> x.came(0, 0, true));
        full.unchanged("keep to 2", FULL, x -> x.keep());
        full.unchanged("pass with two there", NO, x -> x.pass(1));
    }

    private static void badText(Twin full) {
        full.unchanged("lay of a text with a fault", NO, x -> x.lay());
        full.unchanged("fault", 45, x -> x.fault());
        for (int p : new int[] {-1, 3, 5, LEAST, MOST}) full.unchanged("platform " + p, BAD, x -> x.platform(p, 3));
        for (int what : new int[] {-1, 5, LEAST, MOST}) full.unchanged("platform 0 " + what, BAD, x -> x.platform(0, what));
        for (int t : new int[] {-1, 2, 5, LEAST, MOST}) full.unchanged("train " + t, BAD, x -> x.train(t));
        for (int c : new int[] {-1, 5, 24, LEAST, MOST}) full.unchanged("cell " + c, BAD, x -> x.cell(c, 0));
        for (int what : new int[] {-1, 2, LEAST, MOST}) full.unchanged("cell 0 " + what, BAD, x -> x.cell(0, what));
        for (int what : new int[] {-1, 9, LEAST, MOST}) full.unchanged("count " + what, BAD, x -> x.count(what));
    }

    private static void badChanges(Twin full) {
        for (int p : new int[] {-1, 3, 5, LEAST, MOST}) {
            full.unchanged("start of " + p, BAD, x -> x.start(p, 1));
            full.unchanged("hold " + p, BAD, x -> x.hold(p));
        }
        for (int s : new int[] {-1, 31, LEAST, MOST}) full.unchanged("start in " + s, BAD, x -> x.start(0, s));
        for (int c : new int[] {-1, 5, 24, LEAST, MOST}) full.unchanged("pass " + c, BAD, x -> x.pass(c));
    }

    private static void badSteps(Twin full) {
        for (int p : new int[] {-1, 3, 5, LEAST, MOST}) {
            full.unchanged("where " + p, BAD, x -> x.where(p, 1, 0));
            full.unchanged("first of " + p, BAD, x -> x.first(p, 0));
        }
        for (int s : new int[] {-1, 61, LEAST, MOST}) full.unchanged("where in " + s, BAD, x -> x.where(0, s, 0));
        for (int what : new int[] {-1, 3, LEAST, MOST}) full.unchanged("where what " + what, BAD, x -> x.where(0, 1, what));
        for (int t : new int[] {-1, 2, 5, LEAST, MOST}) full.unchanged("first at " + t, BAD, x -> x.first(0, t));
    }

    private static void badWays(Twin full) {
        for (int t : new int[] {-1, 2, 5, LEAST, MOST}) {
            full.unchanged("trip from " + t, BAD, x -> x.trip(t, 0, 0));
            full.unchanged("trip to " + t, BAD, x -> x.trip(0, t, 1));
            full.unchanged("trip from and to " + t, BAD, x -> x.trip(t, t, 0));
            full.unchanged("best to " + t, BAD, x -> x.best(0, t, 0));
        }
        for (int p : new int[] {-1, 3, 5, LEAST, MOST}) full.unchanged("best of " + p, BAD, x -> x.best(p, 0, 1));
        for (int what : new int[] {-1, 2, LEAST, MOST}) {
            full.unchanged("trip what " + what, BAD, x -> x.trip(0, 1, what));
            full.unchanged("best what " + what, BAD, x -> x.best(0, 0, what));
        }
        full.unchanged("trip from 0 to 0", BAD, x -> x.trip(0, 0, 0));
        full.unchanged("trip from 1 to 1", BAD, x -> x.trip(1, 1, 1));
        for (int k : new int[] {-1, 3, LEAST, MOST}) full.unchanged("places " + k, BAD, x -> x.places(k));
    }

    private static void badCame(Twin full) {
        for (int p : new int[] {-1, 3, 5, LEAST, MOST}) {
            full.unchanged("fits " + p, BAD, x -> x.fits(p));
            full.unchanged("from " + p, BAD, x -> x.from(p, 0, 1, 0));
            full.unchanged("clocks of " + p, BAD, x -> x.clocks(p, 0, 0));
            full.unchanged("clocks with " + p, BAD, x -> x.clocks(0, p, 1));
            full.unchanged("clocks of and with " + p, BAD, x -> x.clocks(p, p, 0));
        }
        for (int t : new int[] {-1, 2, 5, LEAST, MOST}) full.unchanged("from to " + t, BAD, x -> x.from(0, t, 1, 1));
        for (int s : new int[] {-1, 61, LEAST, MOST}) {
            full.unchanged("from in " + s, BAD, x -> x.from(0, 0, s, 0));
            full.unchanged("from by in " + s, BAD, x -> x.from(0, 0, s, 1));
        }
        full.unchanged("from by in 0", BAD, x -> x.from(0, 0, 0, 1));
        for (int what : new int[] {-1, 2, LEAST, MOST}) {
            full.unchanged("from what " + what, BAD, x -> x.from(0, 0, 1, what));
            full.unchanged("clocks what " + what, BAD, x -> x.clocks(0, 1, what));
        }
        full.unchanged("clocks of 0 and 0", BAD, x -> x.clocks(0, 0, 0));
        full.unchanged("clocks of 2 and 2", BAD, x -> x.clocks(2, 2, 1));
    }

    private static void badFloods(Twin full) {
        for (int p : new int[] {-1, 3, 5, LEAST, MOST}) full.unchanged("floods of " + p, BAD, x -> x.floods(p, 0, 1, 1, 0));
        for (int t : new int[] {-1, 2, 5, LEAST, MOST}) full.unchanged("floods to " + t, BAD, x -> x.floods(0, t, 1, 1, 0));
        for (int n : new int[] {-1, 7, LEAST, MOST}) full.unchanged("floods to step " + n, BAD, x -> x.floods(0, 0, n, 1, 0));
        for (int of : new int[] {-1, 11, LEAST, MOST}) full.unchanged("floods by " + of, BAD, x -> x.floods(0, 0, 1, of, 0));
        for (int part : new int[] {-1, 2, LEAST, MOST}) full.unchanged("floods part " + part, BAD, x -> x.floods(0, 0, 1, 1, part));
        for (int z : new int[] {-1, 10000, LEAST, MOST}) full.unchanged("day " + z, BAD, x -> x.day(z, 0));
        for (int what : new int[] {-1, 2, LEAST, MOST}) full.unchanged("day what " + what, BAD, x -> x.day(0, what));
    }

    /** Calls that only ask, by trials of other starts, other passing places, held ones: none of it stays. */
    private static void asking(Twin full) {
        for (int p = 0; p < 3; p++) {
            int at = p;
            full.asks("where", x -> x.where(at, 60, 0));
            full.asks("first", x -> x.first(at, 0));
            full.asks("best", x -> x.best(at, 1, 0));
            full.asks("fits", x -> x.fits(at));
            full.asks("from", x -> x.from(at, 0, 60, 1));
            full.asks("floods", x -> x.floods(at, 1, 6, 4, 0));
            full.asks("clocks", x -> x.clocks(at, (at + 1) % 3, 1));
        }
        full.asks("hang", x -> x.hang());
        full.asks("trip", x -> x.trip(0, 1, 1));
        full.asks("places", x -> x.places(0));
        full.asks("day", x -> x.day(1234, 0));
        full.asks("fault", x -> x.fault());
    }

    private static void none(Twin none) {
        none.unchanged("fault of none", NONE, x -> x.fault());
        none.unchanged("first, none", NONE, x -> x.first(0, 0));
        none.unchanged("trip, none", NONE, x -> x.trip(0, 1, 0));
        none.unchanged("trip, none, how often", NONE, x -> x.trip(0, 1, 1));
        none.unchanged("trip alike ahead of none", BAD, x -> x.trip(0, 0, 0));
        none.unchanged("best, none", NONE, x -> x.best(0, 1, 0));
        none.unchanged("best, none, step", NONE, x -> x.best(0, 1, 1));
        none.unchanged("best of no platform ahead of none", BAD, x -> x.best(4, 1, 1));
        none.unchanged("clocks, none", NONE, x -> x.clocks(0, 2, 1));
        none.unchanged("clocks, how often", 0, x -> x.clocks(0, 2, 0));
        none.unchanged("clocks alike ahead of none", BAD, x -> x.clocks(0, 0, 1));
        none.unchanged("floods", 0, x -> x.floods(0, 0, 0, 0, 0));
    }

    /** A new object: nothing is written, undone, kept. */
    private static void empty(Twin empty) {
        empty.unchanged("wipe of nothing", 0, x -> x.wipe());
        empty.unchanged("lay of nothing", NO, x -> x.lay());
        empty.unchanged("fault of nothing", NONE, x -> x.fault());
        empty.unchanged("undo of nothing", NO, x -> x.undo());
        empty.unchanged("back to nothing", NO, x -> x.back());
        empty.unchanged("forget of nothing", 0, x -> x.forget());
        empty.unchanged("places, none", NONE, x -> x.places(0));
        empty.unchanged("places 1, none", NONE, x -> x.places(1));
        empty.unchanged("places 2, none", NONE, x -> x.places(2));
        empty.unchanged("places 3 ahead of none", BAD, x -> x.places(3));
        empty.unchanged("places -1 ahead of none", BAD, x -> x.places(-1));
    }
}
