/** Each sentence on changes, and on what is kept and counted, that names an edge. */
public final class ChangeEdgesTest {
    private static final int BAD = PlatformsLeave.BAD, NO = PlatformsLeave.NO, FULL = PlatformsLeave.FULL;
    private static final int NONE = PlatformsLeave.NONE;

    public static void main(String[] args) {
        starts0To30();
        whichItWas();
        holdsAndLetsGo();
        laysAndTakesAway();
        twoThereAtFirst();
        twoThereAfterUndo();
        theLatest();
        theLast8();
        eachSort();
        mixed();
        fewerThan8();
        eightAndAgain();
        notOfRefused();
        undoIsNoChange();
        keptTwoAtMost();
        keptLast();
        keptAll();
        keptApart();
        nothingUndoneThen();
        keptNotTheRest();
        countsFromNoneToAll();
        as512Calls();
        Due.end();
    }

    /** "A start can be changed (0 to 30)". */
    private static void starts0To30() {
        PlatformsLeave x = Due.laid("n9;p0,0,0,7;p0,4,0,8;");
        int was = 7;
        for (int s = -2; s <= 33; s++) {
            boolean good = s >= 0 && s <= 30;
            Due.is("start in " + s, x.start(0, s), good ? was : BAD);
            if (good) was = s;
            Due.is("start then " + s, x.platform(0, 3), was);
        }
        Due.is("the other's", x.platform(1, 3), 8);
        Due.is("the other's is changed", x.start(1, 0), 8);
        Due.is("no third", x.start(2, 0), BAD);
        Due.is("none at -1", x.start(-1, 0), BAD);
    }

    /** "which it was": the one ahead, not the one told. */
    private static void whichItWas() {
        PlatformsLeave x = Due.laid("n9;p0,0,0,30;");
        Due.is("as told", x.start(0, 0), 30);
        Due.is("as changed", x.start(0, 30), 0);
        Due.is("to the same", x.start(0, 30), 30);
        Due.is("a change, too", x.count(6), 3);
        x.undo();
        Due.is("undone to the same", x.platform(0, 3), 30);
        x.undo();
        Due.is("undone to 0", x.platform(0, 3), 0);
    }

    /** "A PLATFORM is HELD, let go: 1 if it is HELD then, 0": from none to all five. */
    private static void holdsAndLetsGo() {
        PlatformsLeave x = Due.laid("n9;p0,0,0,0;p0,1,0,0;p0,2,0,0;p0,3,0,0;p0,4,0,0;");
        for (int p = 0; p < 5; p++) {
            Due.is("hold " + p, x.hold(p), 1);
            Due.is("held", x.count(4), p + 1);
        }
        Due.is("hold 5", x.hold(5), BAD);
        Due.is("hold -1", x.hold(-1), BAD);
        for (int p = 4; p >= 0; p--) {
            Due.is("let go " + p, x.hold(p), 0);
            Due.is("held", x.count(4), p);
        }
    }

    /** "A PASSING place is laid, taken away: 1 if it is one then, 0": in all cells of the largest ring. */
    private static void laysAndTakesAway() {
        PlatformsLeave x = Due.laid("n24;p0,23,0,0;p0,0,0,0;");
        for (int c = 0; c < 24; c++) {
            Due.is("pass " + c, x.pass(c), 1);
            Due.is("passing", x.count(3), c + 1);
        }
        Due.is("pass 24", x.pass(24), BAD);
        Due.is("pass -1", x.pass(-1), BAD);
        for (int c = 23; c >= 0; c--) {
            Due.is("taken away " + c, x.pass(c), 0);
            Due.is("passing", x.count(3), c);
        }
        Due.is("of 4: pass 4", Due.laid("n4;p0,0,0,0;").pass(4), BAD);
        Due.is("of 4: pass 3", Due.laid("n4;p0,0,0,0;").pass(3), 1);
    }

    /** "NO: two PLATFORMS are there at first": not one, not two that come there later. */
    private static void twoThereAtFirst() {
        PlatformsLeave x = Due.laid("n9;a2;a5;p0,2,0,0;p0,2,0,9;p0,5,0,0;p0,8,0,30;");
        Due.is("two", x.pass(2), NO);
        Due.is("still one", x.cell(2, 0), 1);
        Due.is("no change", x.count(6), 0);
        Due.is("one", x.pass(5), 0);
        Due.is("none", x.pass(3), 1);
        x.hold(0);
        x.hold(1);
        Due.is("two that are held", x.pass(2), NO);
        x = Due.laid("n9;a2;p0,2,0,30;p0,1,0,0;");
        Due.is("both are there in step 1", x.clocks(0, 1, 1), 1);
        Due.is("but not at first", x.pass(2), 0);
        Due.is("not there then", x.clocks(0, 1, 1), NONE);
        x = Due.laid("n24;a23;a0;p0,23,0,0;p0,23,1,0;p0,0,0,0;p0,0,0,0;");
        Due.is("two in the last cell", x.pass(23), NO);
        Due.is("two in the first cell", x.pass(0), NO);
    }

    /** A place under two is never taken away by what is undone or kept. */
    private static void twoThereAfterUndo() {
        PlatformsLeave x = Due.laid("n9;a2;p0,2,0,0;p0,2,0,0;");
        x.keep();
        x.pass(3);
        x.undo();
        x.back();
        Due.is("still one", x.cell(2, 0), 1);
        Due.is("one only", x.count(3), 1);
    }

    /** "UNDONE is the latest of these". */
    private static void theLatest() {
        PlatformsLeave x = Due.laid("n9;a2;p0,0,0,7;");
        x.hold(0);
        x.start(0, 9);
        x.pass(2);
        Due.is("the place", x.undo(), 2);
        Due.is("it is one again", x.cell(2, 0), 1);
        Due.is("start stays", x.platform(0, 3), 9);
        Due.is("the start", x.undo(), 1);
        Due.is("it is 7 again", x.platform(0, 3), 7);
        Due.is("held stays", x.platform(0, 4), 1);
        Due.is("held", x.undo(), 0);
        Due.is("not held", x.platform(0, 4), 0);
        Due.is("none left", x.undo(), NO);
    }

    /** "(the last 8 can be)": of 9, of 20. */
    private static void theLast8() {
        int[] many = {8, 9, 20};
        for (int all : many) {
            PlatformsLeave x = Due.laid("n24;p0,0,0,0;");
            for (int c = 0; c < all; c++) {
                x.pass(c);
                Due.is("can be undone of " + (c + 1), x.count(6), c < 8 ? c + 1 : 8);
            }
            for (int left = 7; left >= 0; left--) Due.is("left of " + all, x.undo(), left);
            Due.is("no more of " + all, x.undo(), NO);
            for (int c = 0; c < 24; c++) Due.is("place " + c + " of " + all, x.cell(c, 0), c < all - 8 ? 1 : 0);
        }
    }

    /** Of each sort, of the first and of the last: let go again, laid again, at what it was. */
    private static void eachSort() {
        PlatformsLeave x = Due.laid("n24;a0;a23;p0,0,0,1;p0,1,0,2;p0,2,0,3;p0,3,0,4;p0,4,0,5;");
        int[] ends = {0, 4};
        for (int p : ends) {
            x.hold(p);
            x.hold(p);
            x.undo();
            Due.is("held again " + p, x.platform(p, 4), 1);
            Due.is("held, " + p, x.count(4), 1);
            x.undo();
            Due.is("let go again " + p, x.platform(p, 4), 0);
            x.start(p, 30);
            x.undo();
            Due.is("start again " + p, x.platform(p, 3), p + 1);
            x.pass(p == 0 ? 0 : 23);
            Due.is("one is left", x.count(3), 1);
            x.undo();
            Due.is("laid again", x.count(3), 2);
        }
    }

    /** Of ten the first two are lost, one of each of two sorts; the others keep their sort and place. */
    private static void mixed() {
        PlatformsLeave x = Due.laid("n24;a0;a23;p0,0,0,1;p0,1,0,2;p0,2,0,3;p0,3,0,4;p0,4,0,5;");
        x.hold(4);
        x.start(3, 30);
        x.pass(22);
        x.start(4, 29);
        x.hold(0);
        x.pass(23);
        x.start(0, 28);
        x.hold(4);
        x.pass(0);
        x.start(3, 27);
        for (int left = 7; left >= 0; left--) Due.is("left", x.undo(), left);
        int[] starts = {1, 2, 3, 30, 5};
        for (int p = 0; p < 5; p++) {
            Due.is("start of " + p, x.platform(p, 3), starts[p]);
            Due.is("held " + p, x.platform(p, 4), p == 4 ? 1 : 0);
        }
        for (int c = 0; c < 24; c++) Due.is("passing " + c, x.cell(c, 0), c == 0 || c == 23 ? 1 : 0);
    }

    private static void fewerThan8() {
        for (int all = 0; all < 8; all++) {
            PlatformsLeave x = Due.laid("n24;p0,0,0,0;");
            for (int s = 1; s <= all; s++) x.start(0, s);
            Due.is("of " + all, x.count(6), all);
            for (int left = all - 1; left >= 0; left--) {
                Due.is("left of " + all, x.undo(), left);
                Due.is("start of " + all, x.platform(0, 3), left);
            }
            Due.is("no more of " + all, x.undo(), NO);
        }
    }

    /** Some are undone, and others come behind them. */
    private static void eightAndAgain() {
        PlatformsLeave x = Due.laid("n24;p0,0,0,0;");
        for (int s = 1; s <= 10; s++) x.start(0, s);
        for (int i = 0; i < 3; i++) x.undo();
        Due.is("back to 7", x.platform(0, 3), 7);
        for (int s = 21; s <= 24; s++) x.start(0, s);
        Due.is("eight again", x.count(6), 8);
        int[] due = {23, 22, 21, 7, 6, 5, 4, 3};
        for (int start : due) {
            x.undo();
            Due.is("start", x.platform(0, 3), start);
        }
        Due.is("no more", x.undo(), NO);
    }

    private static void notOfRefused() {
        PlatformsLeave x = Due.laid("n9;a2;p0,2,0,0;p0,2,0,0;");
        x.start(0, 31);
        x.start(2, 0);
        x.hold(2);
        x.pass(9);
        x.pass(2);
        Due.is("nothing to undo", x.count(6), 0);
        Due.is("nothing undone", x.undo(), NO);
    }

    private static void undoIsNoChange() {
        PlatformsLeave x = Due.laid("n9;p0,2,0,0;");
        x.hold(0);
        Due.is("undone", x.undo(), 0);
        Due.is("what was undone is gone", x.undo(), NO);
        Due.is("not held", x.count(4), 0);
    }

    /** "2 at most", FULL. */
    private static void keptTwoAtMost() {
        PlatformsLeave x = Due.laid("n9;p0,2,0,0;");
        Due.is("one", x.keep(), 1);
        Due.is("two", x.keep(), 2);
        Due.is("no third", x.keep(), FULL);
        Due.is("two still", x.count(7), 2);
        Due.is("one back", x.back(), 1);
        Due.is("two again", x.keep(), 2);
        Due.is("no third again", x.keep(), FULL);
        Due.is("one back", x.back(), 1);
        Due.is("both back", x.back(), 0);
        Due.is("none left", x.back(), NO);
        Due.is("none", x.count(7), 0);
        Due.is("one again", x.keep(), 1);
    }

    /** "As KEPT last": the third that was refused is not kept. */
    private static void keptLast() {
        PlatformsLeave x = Due.laid("n9;p0,2,0,1;");
        x.keep();
        x.start(0, 2);
        x.keep();
        x.start(0, 3);
        x.keep();
        x.start(0, 4);
        x.back();
        Due.is("the second", x.platform(0, 3), 2);
        x.start(0, 5);
        x.back();
        Due.is("the first", x.platform(0, 3), 1);
        x.start(0, 6);
        Due.is("none", x.back(), NO);
        Due.is("stays", x.platform(0, 3), 6);
    }

    /** "KEPT are starts, HELD ones, PASSING places": of all five, all 24. */
    private static void keptAll() {
        PlatformsLeave x = Due.laid("n24;a0;a23;p0,0,0,0;p1,1,0,1;p2,2,0,2;p3,3,0,3;p4,4,0,4;");
        for (int p = 0; p < 5; p++) x.start(p, 30 - p);
        x.hold(0);
        x.hold(4);
        x.pass(0);
        x.pass(22);
        x.keep();
        for (int p = 0; p < 5; p++) {
            x.start(p, p);
            x.hold(p);
        }
        for (int c = 0; c < 24; c++) x.pass(c);
        x.back();
        for (int p = 0; p < 5; p++) {
            Due.is("start of " + p, x.platform(p, 3), 30 - p);
            Due.is("held " + p, x.platform(p, 4), p == 0 || p == 4 ? 1 : 0);
        }
        for (int c = 0; c < 24; c++) Due.is("passing " + c, x.cell(c, 0), c > 21 ? 1 : 0);
    }

    /** What is kept stays as it was, whatever is changed, undone, or given back. */
    private static void keptApart() {
        PlatformsLeave x = Due.laid("n9;p0,2,0,1;");
        x.start(0, 2);
        x.keep();
        x.undo();
        x.hold(0);
        x.keep();
        Due.is("second back", x.back(), 1);
        x.hold(0);
        x.start(0, 29);
        x.pass(7);
        Due.is("first back", x.back(), 0);
        Due.is("start", x.platform(0, 3), 2);
        Due.is("not held", x.platform(0, 4), 0);
        Due.is("not laid", x.cell(7, 0), 0);
    }

    /** "nothing is UNDONE then". */
    private static void nothingUndoneThen() {
        PlatformsLeave x = Due.laid("n9;p0,2,0,1;");
        x.start(0, 2);
        x.keep();
        Due.is("keeping leaves it", x.count(6), 1);
        x.start(0, 3);
        Due.is("back", x.back(), 0);
        Due.is("nothing to undo", x.count(6), 0);
        Due.is("nothing is undone", x.undo(), NO);
        Due.is("as kept", x.platform(0, 3), 2);
        x.hold(0);
        Due.is("a change behind it", x.undo(), 0);
        x.start(0, 4);
        Due.is("back to none", x.back(), NO);
        Due.is("refused: it can be undone still", x.undo(), 0);
    }

    /** What came, and the text, are not kept. */
    private static void keptNotTheRest() {
        PlatformsLeave x = Due.laid("n9;t4;p0,2,0,1;");
        x.came(0, 2, true);
        x.keep();
        x.came(0, 3, false);
        x.write('x');
        x.back();
        Due.is("came", x.count(5), 2);
        Due.is("letters", x.count(8), 16);
    }

    /** Each count at its least and at its most. */
    private static void countsFromNoneToAll() {
        PlatformsLeave x = Due.laid("n4;p0,0,0,0;");
        int[] least = {4, 0, 1, 0, 0, 0, 0, 0, 12};
        for (int what = -1; what <= 9; what++) {
            Due.is("least " + what, x.count(what), what < 0 || what > 8 ? BAD : least[what]);
        }
        x = Due.laid("n24;t0;t0;t0;t0;t0;p0,0,0,0;p0,1,0,0;p0,2,0,0;p0,3,0,0;p0,4,0,0;");
        for (int c = 0; c < 24; c++) x.pass(c);
        for (int p = 0; p < 5; p++) x.hold(p);
        for (int i = 0; i < 7; i++) x.came(4, 60, true);
        for (int i = 0; i < 3; i++) x.keep();
        for (int i = 0; i < 200; i++) x.write('~');
        int[] most = {24, 5, 5, 24, 5, 6, 8, 2, 200};
        for (int what = -1; what <= 9; what++) {
            Due.is("most " + what, x.count(what), what < 0 || what > 8 ? BAD : most[what]);
        }
    }

    /** "An object is used for at most 512 calls": the 512th is answered as the first. */
    private static void as512Calls() {
        PlatformsLeave x = new PlatformsLeave();
        int first = x.day(9999, 0);
        for (int call = 2; call < 512; call++) x.start(call % 4, call % 31);
        Due.is("call 512", x.day(9999, 0), first);
    }
}
