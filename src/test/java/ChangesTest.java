/** Promises 9 to 12, 26 and 27: start, hold, pass, undo, keep, back. */
public final class ChangesTest {
    private static final int BAD = PlatformsLeave.BAD, NO = PlatformsLeave.NO, FULL = PlatformsLeave.FULL;

    public static void main(String[] args) {
        starts();
        holds();
        passes();
        undoes();
        undoesEight();
        undoesMixed();
        keeps();
        Due.end();
    }

    private static void starts() {
        PlatformsLeave x = new PlatformsLeave();
        Due.is("start", x.start(3, 30), 1);
        Due.is("start again", x.start(3, 0), 30);
        Due.is("and again", x.start(3, 0), 0);
        Due.is("counted", x.count(6), 3);
        Due.is("the others'", x.platform(2, 3), 3);
        int[][] bad = {{-1, 0}, {4, 0}, {0, -1}, {0, 31}, {Integer.MIN_VALUE, 0}, {0, Integer.MAX_VALUE}};
        for (int[] call : bad) Due.is("start " + call[0] + " " + call[1], x.start(call[0], call[1]), BAD);
        Due.is("nothing changed", x.count(6), 3);
        Due.is("still 0", x.platform(0, 3), 0);
        Due.is("goes from then on", x.where(3, 60, 1), new PlatformsLeave().where(3, 60, 1));
    }

    private static void holds() {
        PlatformsLeave x = new PlatformsLeave();
        Due.is("hold", x.hold(2), 1);
        Due.is("hold another", x.hold(0), 1);
        Due.is("held", x.count(4), 2);
        Due.is("let go", x.hold(2), 0);
        Due.is("held then", x.count(4), 1);
        int[] bad = {-1, 4, 5, Integer.MIN_VALUE, Integer.MAX_VALUE};
        for (int p : bad) Due.is("hold " + p, x.hold(p), BAD);
        Due.is("nothing changed", x.count(6), 3);
    }

    private static void passes() {
        PlatformsLeave x = Due.laid("n10;a3;a4;p0,3,0,0;p0,3,1,0;p0,4,0,0;p0,5,0,0;");
        Due.is("two are there", x.pass(3), NO);
        Due.is("one is there", x.pass(4), 0);
        Due.is("laid again", x.pass(4), 1);
        Due.is("laid at one", x.pass(5), 1);
        Due.is("laid at none", x.pass(9), 1);
        Due.is("counted", x.count(3), 4);
        int[] bad = {-1, 10, Integer.MIN_VALUE, Integer.MAX_VALUE};
        for (int c : bad) Due.is("pass " + c, x.pass(c), BAD);
        Due.is("changes", x.count(6), 4);
        x.start(0, 30);
        x.start(1, 30);
        Due.is("still two", x.pass(3), NO);
    }

    private static void undoes() {
        PlatformsLeave x = new PlatformsLeave();
        Due.is("nothing to undo", x.undo(), NO);
        x.start(1, 5);
        x.start(1, 6);
        x.hold(1);
        x.pass(6);
        x.pass(0);
        Due.is("undo pass", x.undo(), 4);
        Due.is("not laid", x.cell(0, 0), 0);
        Due.is("undo pass taken away", x.undo(), 3);
        Due.is("laid", x.cell(6, 0), 1);
        Due.is("undo hold", x.undo(), 2);
        Due.is("not held", x.platform(1, 4), 0);
        Due.is("undo start", x.undo(), 1);
        Due.is("start 5", x.platform(1, 3), 5);
        Due.is("undo the first", x.undo(), 0);
        Due.is("start 0", x.platform(1, 3), 0);
        Due.is("no more", x.undo(), NO);
        x.hold(3);
        x.hold(3);
        Due.is("undo let go", x.undo(), 1);
        Due.is("held", x.platform(3, 4), 1);
        x.start(9, 9);
        x.hold(9);
        x.pass(99);
        Due.is("what was bad is no change", x.count(6), 1);
    }

    private static void undoesEight() {
        PlatformsLeave x = new PlatformsLeave();
        for (int s = 1; s <= 9; s++) x.start(0, s);
        x.pass(1);
        Due.is("eight at most", x.count(6), 8);
        for (int left = 7; left >= 0; left--) Due.is("undo", x.undo(), left);
        Due.is("no ninth", x.undo(), NO);
        Due.is("the third start", x.platform(0, 3), 2);
        Due.is("not laid", x.cell(1, 0), 0);
    }

    /** The oldest two are lost; what is left keeps its sort, its place and what was. */
    private static void undoesMixed() {
        PlatformsLeave x = new PlatformsLeave();
        x.start(2, 11);
        x.hold(1);
        x.start(3, 12);
        x.pass(9);
        x.hold(0);
        x.start(1, 13);
        x.pass(6);
        x.start(3, 14);
        x.hold(3);
        x.pass(1);
        while (x.undo() != NO) { }
        int[] starts = {0, 0, 11, 1};
        int[] held = {0, 1, 0, 0};
        for (int p = 0; p < 4; p++) {
            Due.is("start then of " + p, x.platform(p, 3), starts[p]);
            Due.is("held then " + p, x.platform(p, 4), held[p]);
        }
        for (int c = 0; c < 12; c++) Due.is("passing then " + c, x.cell(c, 0), c == 6 || c == 11 ? 1 : 0);
    }

    private static void keeps() {
        PlatformsLeave x = new PlatformsLeave();
        Due.is("nothing kept", x.back(), NO);
        x.start(0, 7);
        x.hold(1);
        Due.is("keep", x.keep(), 1);
        Due.is("keeping is no change", x.count(6), 2);
        x.pass(8);
        x.start(0, 8);
        Due.is("keep two", x.keep(), 2);
        Due.is("no third", x.keep(), FULL);
        x.hold(1);
        x.hold(2);
        x.pass(6);
        x.start(3, 30);
        x.came(1, 1, true);
        Due.is("back", x.back(), 1);
        settings(x, 8, 1, 0, 1, 1, 1);
        Due.is("what came stays", x.count(5), 1);
        Due.is("nothing is undone then", x.undo(), NO);
        x.start(0, 9);
        Due.is("one left", x.count(7), 1);
        Due.is("back to the first", x.back(), 0);
        settings(x, 7, 1, 0, 1, 1, 0);
        Due.is("nothing is undone then", x.count(6), 0);
        Due.is("none left", x.back(), NO);
        Due.is("keep again", x.keep(), 1);
        x.undo();
        Due.is("kept for all that", x.count(7), 1);
    }

    private static void settings(PlatformsLeave x, int start, int one, int two, int late, int six, int eight) {
        Due.is("start of 0", x.platform(0, 3), start);
        Due.is("1 held", x.platform(1, 4), one);
        Due.is("2 held", x.platform(2, 4), two);
        Due.is("start of 3", x.platform(3, 3), late);
        Due.is("passing 6", x.cell(6, 0), six);
        Due.is("passing 8", x.cell(8, 0), eight);
    }
}
