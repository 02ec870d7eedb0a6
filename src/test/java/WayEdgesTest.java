/** Each sentence on TRIP, START and PLACES that names an edge. */
public final class WayEdgesTest {
    private static final int BAD = PlatformsLeave.BAD, NONE = PlatformsLeave.NONE;

    public static void main(String[] args) {
        tripFrom0();
        tripTo60();
        tripNone();
        tripAlike();
        tripTrainsThereAre();
        tripInOneStep();
        tripFewest();
        tripEarliestFirst();
        tripOntoAgain();
        bestOf30();
        bestLatest();
        bestNever0();
        bestTo60();
        bestNone();
        bestOfHeld();
        bestInPlaceOfItsOwn();
        placesNone();
        placesOne();
        placesTwo();
        placesThree();
        placesOnAndOn();
        placesOfFacing();
        placesBesides();
        placesInStep60();
        placesFull();
        placesOfHeld();
        Due.end();
    }

    private static void trip(PlatformsLeave x, int a, int b, int step, int often) {
        Due.is("trip " + a + " " + b, x.trip(a, b, 0), step);
        Due.is("trip " + a + " " + b + " often", x.trip(a, b, 1), often);
    }

    /** "at the end of each step (0, too)": onto it in step 0, and off it in step 0. */
    private static void tripFrom0() {
        trip(Due.laid("n9;t3;t3;p0,3,0,0;"), 0, 1, 0, 1);
        trip(Due.laid("n24;t3;t9;p0,3,0,0;"), 0, 1, 6, 1);
        PlatformsLeave late = Due.laid("n24;t3;t9;p1,3,0,30;p0,12,0,0;");
        trip(late, 0, 1, 40, 1);
        late.hold(0);
        trip(late, 0, 1, NONE, NONE);
    }

    /** "none (not in 60)". */
    private static void tripTo60() {
        PlatformsLeave x = Due.laid("n24;t0;t16;t17;t15;p1,0,0,30;");
        trip(x, 0, 1, 60, 1);
        trip(x, 0, 2, NONE, NONE);
        trip(x, 0, 3, 58, 1);
        trip(x, 3, 1, 60, 1);
    }

    private static void tripNone() {
        PlatformsLeave x = Due.laid("n9;t3;t6;p0,4,0,0;p0,7,0,0;");
        x.hold(0);
        x.hold(1);
        trip(x, 0, 1, NONE, NONE);
        trip(x, 1, 0, NONE, NONE);
        PlatformsLeave through = Due.laid("n10;t1;t3;p4,0,0,0;");
        trip(through, 0, 1, NONE, NONE);
        PlatformsLeave late = Due.laid("n9;t3;t2;p0,3,0,0;p0,1,0,0;");
        trip(late, 0, 1, 8, 1);
        trip(late, 1, 0, 2, 1);
    }

    /** "BAD (alike, too)": even if there is but one train. */
    private static void tripAlike() {
        PlatformsLeave x = Due.laid("n9;t3;t3;p0,3,0,0;");
        for (int t = 0; t < 2; t++) {
            for (int what = 0; what < 2; what++) Due.is("alike " + t, x.trip(t, t, what), BAD);
        }
        trip(x, 0, 1, 0, 1);
        Due.is("one train", Due.laid("n9;t3;p0,3,0,0;").trip(0, 0, 0), BAD);
    }

    private static void tripTrainsThereAre() {
        PlatformsLeave x = Due.laid("n9;t3;t4;t5;t6;t7;p0,3,0,0;");
        trip(x, 0, 4, 4, 1);
        trip(x, 4, 0, 9, 1);
        int[] none = {-1, 5, 6};
        for (int t : none) {
            Due.is("from " + t, x.trip(t, 0, 0), BAD);
            Due.is("to " + t, x.trip(0, t, 1), BAD);
        }
        x = Due.laid("n9;t3;t4;p0,3,0,0;");
        Due.is("a third", x.trip(0, 2, 0), BAD);
        Due.is("none", Due.laid("n9;p0,3,0,0;").trip(0, 1, 0), BAD);
    }

    /** "as often as one likes": off one, onto a train, onto another one, off it, in one step. */
    private static void tripInOneStep() {
        PlatformsLeave x = Due.laid("n9;a4;t4;t4;t1;p0,1,0,0;p0,4,0,4;");
        trip(x, 2, 0, 3, 1);
        trip(x, 2, 1, 3, 1);
        x = Due.laid("n12;a4;t1;t4;t6;p4,4,0,4;p0,1,0,0;");
        trip(x, 0, 2, 4, 2);
        trip(x, 1, 2, 4, 1);
        x = Due.laid("n12;a4;t1;t5;t6;p4,4,0,4;p0,1,0,0;");
        trip(x, 0, 2, 5, 1);
    }

    /** "how often at least": by the one that goes on, not by changes that help nothing. */
    private static void tripFewest() {
        PlatformsLeave x = Due.laid("n12;a3;a5;t1;t3;t5;t8;p0,1,0,0;p0,3,0,3;");
        trip(x, 0, 3, 7, 1);
        x = Due.laid("n11;a3;a8;t1;t3;t8;p4,3,1,5;p0,1,0,0;");
        Due.is("both come in 7", x.first(0, 2) * 10 + x.first(1, 2), 77);
        trip(x, 0, 2, 7, 1);
        trip(x, 1, 2, 7, 1);
        x.hold(1);
        trip(x, 1, 2, NONE, NONE);
        trip(x, 0, 2, NONE, NONE);
    }

    /** "to be there then": in the first step, though fewer would do later. */
    private static void tripEarliestFirst() {
        PlatformsLeave x = Due.laid("n12;a3;t1;t3;t9;p4,3,0,3;p0,1,0,0;");
        trip(x, 0, 2, 5, 2);
        x.hold(0);
        trip(x, 0, 2, 8, 1);
        x.hold(0);
        x.hold(1);
        trip(x, 0, 2, NONE, NONE);
        trip(x, 1, 2, 5, 1);
    }

    /** One who waits on a train gets onto the same platform once more. */
    private static void tripOntoAgain() {
        PlatformsLeave x = Due.laid("n20;t2;t6;t12;t18;p0,2,0,0;p0,5,0,30;");
        x.hold(1);
        trip(x, 0, 1, NONE, NONE);
        x.pass(5);
        trip(x, 0, 1, 4, 1);
        trip(x, 0, 3, 16, 1);
        trip(x, 3, 0, 20, 1);
    }

    private static void best(PlatformsLeave x, int p, int t, int start, int step) {
        int own = x.platform(p, 3);
        Due.is("best start " + p + " " + t, x.best(p, t, 0), start);
        Due.is("best step " + p + " " + t, x.best(p, t, 1), step);
        Due.is("its own stays", x.platform(p, 3), own);
    }

    /** "the start (0 to 30)": the last one. */
    private static void bestOf30() {
        best(Due.laid("n9;t3;p0,3,0,0;"), 0, 0, 30, 0);
        PlatformsLeave x = Due.laid("n24;t4;p0,3,0,0;p0,4,0,0;");
        x.hold(1);
        best(x, 0, 0, NONE, NONE);
        best(x, 1, 0, 30, 0);
        best(Due.laid("n9;t4;p0,3,0,0;p1,4,1,30;"), 0, 0, NONE, NONE);
        best(Due.laid("n9;t4;p0,3,0,30;p0,4,0,29;"), 0, 0, 30, 30);
        best(Due.laid("n9;t4;p0,3,0,0;p0,4,0,30;"), 0, 0, 30, 31);
    }

    /** "soonest, of several the latest". */
    private static void bestLatest() {
        best(Due.laid("n9;t4;p1,3,0,9;"), 0, 0, 2, 2);
        best(Due.laid("n9;t5;p1,3,0,9;"), 0, 0, 2, 4);
        best(Due.laid("n9;t8;p0,3,0,9;p0,6,0,8;"), 0, 0, 7, 11);
        best(Due.laid("n9;t6;p0,3,0,9;p0,6,0,8;"), 0, 0, 7, 9);
    }

    /** A start of 0 is one of 1, so the latest is never 0. */
    private static void bestNever0() {
        best(Due.laid("n9;t4;p0,3,0,9;"), 0, 0, 1, 1);
        best(Due.laid("n9;t2;p0,3,1,9;"), 0, 0, 1, 1);
        best(Due.laid("n9;t5;p4,3,0,9;"), 0, 0, 1, 1);
    }

    /** In step 60: behind a slow one that starts in 30. */
    private static void bestTo60() {
        PlatformsLeave x = Due.laid("n24;t16;t17;t15;p1,1,0,30;p1,0,0,4;");
        best(x, 1, 0, 30, 60);
        best(x, 1, 1, NONE, NONE);
        best(x, 1, 2, 30, 58);
    }

    private static void bestNone() {
        best(Due.laid("n10;t4;p4,3,0,9;"), 0, 0, NONE, NONE);
        best(Due.laid("n11;t4;p4,3,0,9;"), 0, 0, 1, 6);
    }

    /** One that is held has starts, too, but goes by none. */
    private static void bestOfHeld() {
        PlatformsLeave x = Due.laid("n9;t3;t4;p0,3,0,7;");
        x.hold(0);
        best(x, 0, 0, 30, 0);
        best(x, 0, 1, NONE, NONE);
        x.hold(0);
        best(x, 0, 1, 1, 1);
    }

    /** "in place of its own": the others keep theirs, as changed. */
    private static void bestInPlaceOfItsOwn() {
        PlatformsLeave x = Due.laid("n9;t5;p0,3,0,9;p0,4,0,8;");
        best(x, 0, 0, 9, 10);
        x.start(1, 3);
        best(x, 0, 0, 4, 5);
        x.hold(1);
        best(x, 0, 0, NONE, NONE);
        x.pass(4);
        best(x, 0, 0, 1, 2);
    }

    private static void places(PlatformsLeave x, int many, int one, int two) {
        Due.is("places", x.places(0), many);
        Due.is("places 1", x.places(1), one);
        Due.is("places 2", x.places(2), two);
        Due.is("places -1", x.places(-1), BAD);
        Due.is("places 3", x.places(3), BAD);
    }

    /** With these held: the others go round, and come to each of them. */
    private static PlatformsLeave held(String text, int... held) {
        PlatformsLeave x = Due.laid(text);
        for (int p : held) x.hold(p);
        return x;
    }

    /** "(0 to 2)": 0, and "NONE: there are not so many". */
    private static void placesNone() {
        places(held("n9;p0,3,0,0;"), 0, NONE, NONE);
        places(held("n9;p0,3,0,0;p0,2,0,0;"), 0, NONE, NONE);
        places(held("n9;a5;p0,4,0,0;p0,5,0,0;", 1), 0, NONE, NONE);
    }

    /** One: the first cell of the ring, the last. */
    private static void placesOne() {
        places(held("n9;p0,3,0,0;p0,4,0,0;", 1), 1, 4, NONE);
        places(held("n24;p0,23,0,0;p0,0,0,0;", 1), 1, 0, NONE);
        places(held("n24;p0,22,0,0;p0,23,0,0;", 1), 1, 23, NONE);
        places(held("n4;p0,1,1,0;p0,0,1,0;", 1), 1, 0, NONE);
        places(held("n4;p0,0,1,0;p0,3,1,0;", 1), 1, 3, NONE);
    }

    /** Two: "by the lower CELL, then the higher", whichever is come to first. */
    private static void placesTwo() {
        places(held("n9;p0,0,0,0;p0,2,0,0;p0,1,0,0;", 1, 2), 2, 1, 2);
        places(held("n9;p0,8,1,0;p0,7,1,0;p0,6,1,0;", 1, 2), 2, 6, 7);
        places(held("n24;p0,23,0,0;p0,0,0,0;p0,1,0,0;", 1, 2), 2, 0, 1);
        places(held("n24;p0,22,0,0;p0,23,0,0;p0,0,0,0;", 1, 2), 2, 0, 23);
    }

    /** Three would be needed: none. */
    private static void placesThree() {
        PlatformsLeave x = held("n9;p0,0,0,0;p0,1,0,0;p0,2,0,0;p0,3,0,0;", 1, 2, 3);
        places(x, NONE, NONE, NONE);
        x.pass(2);
        places(x, 2, 1, 3);
        x.pass(1);
        places(x, 1, 3, NONE);
        x.pass(3);
        places(x, 0, NONE, NONE);
        x.pass(1);
        places(x, 1, 1, NONE);
    }

    /** Two that go one behind the other by the same clock: each place makes the next one needed. */
    private static void placesOnAndOn() {
        PlatformsLeave x = held("n9;p0,3,0,0;p0,4,0,0;");
        Due.is("waits once", x.where(0, 60, 1), 1);
        places(x, NONE, NONE, NONE);
        for (int c = 0; c < 9; c++) x.pass(c);
        places(x, 0, NONE, NONE);
    }

    /** Two that face each other: what each waits for in the end is not where a place is wanted. */
    private static void placesOfFacing() {
        places(held("n9;p0,1,1,0;p0,6,0,0;"), 2, 3, 8);
        places(held("n9;p0,6,0,0;p0,1,1,0;"), 2, 4, 8);
        places(held("n12;p0,11,1,19;p2,1,0,25;"), 2, 3, 9);
    }

    /** "have to be PASSING places besides": those that are already count not. */
    private static void placesBesides() {
        PlatformsLeave x = held("n9;a4;a0;p0,3,0,0;p0,4,0,0;p0,7,1,0;", 1, 2);
        places(x, 1, 7, NONE);
        Due.is("none is laid", x.count(3), 2);
        Due.is("nor now", x.cell(7, 0), 0);
    }

    /** "nobody WAITS in any step": in 60, too. */
    private static void placesInStep60() {
        PlatformsLeave x = held("n24;p1,0,0,30;p0,16,0,0;", 1);
        Due.is("waits in 60 alone", x.where(0, 59, 1) * 10 + x.where(0, 60, 1), 1);
        places(x, 1, 16, NONE);
        places(held("n24;p1,0,0,30;p0,17,0,0;", 1), 0, NONE, NONE);
    }

    /** Where two others are in a passing place, no more places help. */
    private static void placesFull() {
        PlatformsLeave x = held("n9;a4;p0,4,0,0;p0,4,0,0;p0,3,0,0;", 0, 1);
        places(x, NONE, NONE, NONE);
        x.hold(0);
        places(x, 0, NONE, NONE);
        places(held("n9;a4;p0,4,0,0;p0,4,0,0;p0,2,0,0;p0,3,0,0;", 0, 1, 3), NONE, NONE, NONE);
    }

    private static void placesOfHeld() {
        PlatformsLeave x = held("n9;p0,3,0,0;p0,4,0,0;", 0, 1);
        places(x, 0, NONE, NONE);
        x.hold(0);
        places(x, 1, 4, NONE);
    }
}
