/** Each sentence of the second part of the document (steps), and of FIRST and HANG, that names an edge. */
public final class StepEdgesTest {
    private static final int BAD = PlatformsLeave.BAD, NONE = PlatformsLeave.NONE;

    public static void main(String[] args) {
        stepsOf60();
        startOf0();
        startOf30();
        heldOnes();
        round();
        slowOnes();
        milkOnes();
        expressRound();
        intoACell();
        intoAPassingPlace();
        expressSecondCell();
        eachAsAllAreByThen();
        politeOnes();
        politeInWhichStep();
        atTheEnd();
        wetFrom1();
        wetAlone();
        waitedFrom1();
        firstFrom0();
        hangFrom31();
        hangTo60();
        hangNotHeld();
        hangByThisLine();
        Due.end();
    }

    private static void row(String text, PlatformsLeave x, int p, int what, int... due) {
        for (int s = 0; s < due.length; s++) Due.is(text + " where " + p + " " + s + " " + what, x.where(p, s, what), due[s]);
    }

    private static void cells(String text, int p, int... due) {
        row(text, Due.laid(text), p, 0, due);
    }

    private static void waits(String text, int p, int... due) {
        row(text, Due.laid(text), p, 1, due);
    }

    private static void wets(String text, int p, int... due) {
        row(text, Due.laid(text), p, 2, due);
    }

    /** "at the end of a step (0 to 60)". */
    private static void stepsOf60() {
        PlatformsLeave x = Due.laid("n24;w13;p0,1,0,0;");
        Due.is("step -1", x.where(0, -1, 0), BAD);
        Due.is("step 0", x.where(0, 0, 0), 1);
        Due.is("step 1", x.where(0, 1, 0), 2);
        Due.is("step 59", x.where(0, 59, 0), 12);
        Due.is("step 60", x.where(0, 60, 0), 13);
        Due.is("wet to 59", x.where(0, 59, 2), 2);
        Due.is("wet to 60", x.where(0, 60, 2), 3);
        Due.is("step 61", x.where(0, 61, 0), BAD);
        Due.is("step 61 wet", x.where(0, 61, 2), BAD);
    }

    /** "who has started (in step S, or 1, if S is 0)". */
    private static void startOf0() {
        cells("n9;p0,3,0,0;", 0, 3, 4, 5);
        cells("n9;p0,3,0,1;", 0, 3, 4, 5);
        cells("n9;p0,3,0,2;", 0, 3, 3, 4, 5);
        cells("n9;p1,3,0,0;", 0, 3, 3, 4, 4, 5);
        cells("n9;p1,3,0,1;", 0, 3, 3, 4, 4, 5);
        cells("n9;p1,3,0,2;", 0, 3, 3, 4, 4, 5);
        cells("n9;p1,3,0,3;", 0, 3, 3, 3, 3, 4, 4);
    }

    /** "starts in step S (0 to 30)": the last start. */
    private static void startOf30() {
        PlatformsLeave x = Due.laid("n24;p0,3,0,30;p1,9,1,30;p0,10,0,29;");
        int[] steps = {28, 29, 30, 31, 32};
        int[][] due = {{3, 3, 4, 5, 6}, {9, 9, 8, 8, 7}, {10, 11, 12, 13, 14}};
        for (int p = 0; p < 3; p++) {
            for (int i = 0; i < 5; i++) Due.is("late " + p + " in " + steps[i], x.where(p, steps[i], 0), due[p][i]);
        }
    }

    /** "and is not HELD": it goes nowhere, waits never, and is in the way. */
    private static void heldOnes() {
        PlatformsLeave x = Due.laid("n9;w3;p0,3,0,0;p0,2,0,0;p4,5,0,0;");
        x.hold(0);
        Due.is("held", x.where(0, 60, 0), 3);
        Due.is("waits never", x.where(0, 60, 1), 0);
        Due.is("is wet", x.where(0, 60, 2), 60);
        Due.is("in the way", x.where(1, 60, 1), 60);
        Due.is("hangs not", x.hang() & 1, 0);
        x.hold(0);
        Due.is("let go", x.where(0, 1, 0), 4);
    }

    /** "up: the next number, round". */
    private static void round() {
        int[] rings = {4, 5, 23, 24};
        for (int n : rings) {
            int last = n - 1;
            cells("n" + n + ";p0," + last + ",0,0;", 0, last, 0, 1, 2, 3);
            cells("n" + n + ";p0,0,1,0;", 0, 0, last, last - 1, last - 2);
            waits("n" + n + ";p0," + last + ",0,0;p0,0,0,30;", 0, 0, 1, 2, 3);
            waits("n" + n + ";p0,0,1,0;p0," + last + ",0,30;", 0, 0, 1, 2, 3);
        }
    }

    /** "a SLOW one only in steps of even numbers": nor does it wait in others. */
    private static void slowOnes() {
        cells("n9;p1,0,0,0;", 0, 0, 0, 1, 1, 2, 2, 3, 3, 4, 4);
        waits("n9;p1,0,0,0;p0,1,0,30;", 0, 0, 0, 1, 1, 2, 2, 3);
        PlatformsLeave x = Due.laid("n24;p1,0,0,0;");
        Due.is("to step 59", x.where(0, 59, 0), 5);
        Due.is("to step 60", x.where(0, 60, 0), 6);
    }

    /** "a MILK one not in the step behind one in which it went into a CELL with a TRAIN". */
    private static void milkOnes() {
        cells("n9;t2;p2,0,0,0;", 0, 0, 1, 2, 2, 3, 4, 5, 6, 7, 8, 0, 1, 2, 2, 3);
        cells("n9;t2;p2,2,0,0;", 0, 2, 3, 4);
        cells("n4;t0;t1;t2;t3;p2,0,0,0;", 0, 0, 1, 1, 2, 2, 3, 3, 0, 0, 1);
        cells("n9;t2;t2;p2,3,1,0;", 0, 3, 2, 2, 1, 0, 8);
        String blocked = "n9;t1;p2,0,0,0;p0,1,0,3;";
        cells(blocked, 0, 0, 0, 0, 0, 1, 1, 2, 3);
        waits(blocked, 0, 0, 1, 2, 3, 3, 3, 3);
        String behind = "n9;t1;p2,0,0,0;p0,2,0,30;";
        cells(behind, 0, 0, 1, 1, 1, 1);
        waits(behind, 0, 0, 0, 0, 1, 2, 3);
        cells("n9;t2;p0,0,0,0;", 0, 0, 1, 2, 3);
        cells("n9;t2;p4,0,0,0;", 0, 0, 2, 4, 6);
    }

    /** "an EXPRESS two CELLS, one behind the other": round as well. */
    private static void expressRound() {
        cells("n4;p4,3,0,0;", 0, 3, 1, 3, 1);
        cells("n4;p4,2,0,0;", 0, 2, 0, 2, 0);
        cells("n4;p4,0,1,0;", 0, 0, 2, 0, 2);
        cells("n5;p4,1,1,0;", 0, 1, 4, 2, 0, 3, 1);
        waits("n5;p4,3,0,0;p0,0,0,30;", 0, 0, 1, 2, 3);
        cells("n5;p4,3,0,0;p0,0,0,30;", 0, 3, 4, 4, 4);
        cells("n5;p4,1,1,0;p0,4,0,30;", 0, 1, 0, 0, 0);
    }

    /** "Into a CELL where another PLATFORM is .. none goes: it WAITS there for this step". */
    private static void intoACell() {
        String text = "n9;p0,3,0,0;p0,5,0,4;";
        cells(text, 0, 3, 4, 4, 4, 4, 5, 6);
        waits(text, 0, 0, 0, 1, 2, 3, 3, 3);
        waits(text, 1, 0, 0, 0, 0, 0, 0, 0);
    }

    /** "(a PASSING place: where two others are)". */
    private static void intoAPassingPlace() {
        cells("n9;a4;p0,3,0,0;", 0, 3, 4, 5);
        cells("n9;a4;p0,3,0,0;p0,4,0,30;", 0, 3, 4, 5);
        cells("n9;a4;p0,3,0,0;p0,4,0,30;p0,4,0,30;", 0, 3, 3, 3);
        waits("n9;a4;p0,3,0,0;p0,4,0,30;p0,4,0,30;", 0, 0, 1, 2, 3);
        String out = "n9;a4;p0,3,0,0;p0,4,0,2;p0,4,0,30;";
        cells(out, 0, 3, 3, 3, 4, 5);
        waits(out, 0, 0, 1, 2, 2, 2);
        cells("n9;a3;p0,3,0,0;p0,4,0,30;", 0, 3, 3, 3);
        PlatformsLeave x = Due.laid("n9;p0,3,0,0;p0,4,0,30;");
        x.pass(4);
        row("laid", x, 0, 0, 3, 4, 5);
        x.pass(4);
        row("taken away", x, 0, 0, 3, 3, 3);
    }

    /** "(an EXPRESS, too, that has gone one CELL, but can not go the second)". */
    private static void expressSecondCell() {
        String second = "n9;p4,0,0,0;p0,2,0,3;";
        cells(second, 0, 0, 1, 1, 1, 2, 3);
        waits(second, 0, 0, 1, 2, 3, 4, 5);
        String first = "n9;p4,0,0,0;p0,1,0,2;";
        cells(first, 0, 0, 0, 0, 1, 2);
        waits(first, 0, 0, 1, 2, 3, 4);
        String away = "n9;p4,0,0,0;p4,2,0,2;";
        cells(away, 0, 0, 1, 1, 3, 5);
        waits(away, 0, 0, 1, 2, 2, 2);
        cells("n9;a1;p4,0,0,0;p0,1,0,30;", 0, 0, 2, 4);
        cells("n9;a2;p4,0,0,0;p0,2,0,30;", 0, 0, 2, 4);
        cells("n9;a2;p4,0,0,0;p0,2,0,30;p0,2,0,30;", 0, 0, 1, 1);
        cells("n9;a1;p4,0,0,0;p0,1,0,30;p0,1,0,30;", 0, 0, 0, 0);
    }

    /** "PLATFORMS, 0 first, each as all are by then". */
    private static void eachAsAllAreByThen() {
        cells("n9;p0,3,0,0;p0,4,0,0;", 0, 3, 3, 4, 5);
        cells("n9;p0,4,0,0;p0,3,0,0;", 1, 3, 4, 5, 6);
        cells("n4;p0,0,0,0;p0,3,0,0;p0,2,0,0;p0,1,0,0;", 1, 3, 3, 3, 3);
        String ring = "n4;p0,0,0,0;p0,1,0,0;p0,2,0,0;p0,3,0,0;";
        for (int p = 0; p < 4; p++) waits(ring, p, 0, 1, 2, 3);
        String one = "n5;p0,3,0,0;p0,2,0,0;p0,1,0,0;p0,0,0,0;";
        for (int p = 0; p < 4; p++) waits(one, p, 0, 0, 0, 0);
        String facing = "n9;p0,3,0,0;p0,5,1,0;";
        cells(facing, 0, 3, 4, 4, 4);
        cells(facing, 1, 5, 5, 5, 5);
        cells("n9;p0,5,1,0;p0,3,0,0;", 0, 5, 4, 4, 4);
    }

    /** "a POLITE one that WAITS goes the other way from the next step on". */
    private static void politeOnes() {
        String turns = "n9;p3,0,0,0;p0,2,0,30;";
        cells(turns, 0, 0, 1, 1, 0, 8, 7, 6, 5, 4, 3, 3, 4);
        waits(turns, 0, 0, 0, 1, 1, 1, 1, 1, 1, 1, 1, 2, 2);
        cells("n9;p3,8,0,0;p0,0,0,30;", 0, 8, 8, 7, 6);
        cells("n9;p3,0,1,0;p0,8,0,30;", 0, 0, 0, 1, 2);
        String between = "n9;p3,4,0,0;p0,3,0,30;p0,5,0,30;";
        cells(between, 0, 4, 4, 4, 4, 4);
        waits(between, 0, 0, 1, 2, 3, 4);
        cells("n9;p3,4,0,5;p0,5,0,30;", 0, 4, 4, 4, 4, 4, 4, 3, 2);
        Due.is("as told it goes up", Due.laid(turns).platform(0, 2), 0);
    }

    /** It goes no cell the other way in the step in which it waits, and is never turned by another's waiting. */
    private static void politeInWhichStep() {
        String facing = "n9;p3,3,0,0;p3,4,1,0;";
        cells(facing, 0, 3, 3, 2, 1, 0);
        cells(facing, 1, 4, 4, 5, 6, 7);
        String behind = "n9;p0,3,0,0;p3,4,0,3;";
        cells(behind, 1, 4, 4, 4, 5, 6);
        waits(behind, 0, 0, 1, 2, 3, 3);
    }

    /** "AT a TRAIN is a PLATFORM in its CELL at the end of a step": not on its way through. */
    private static void atTheEnd() {
        PlatformsLeave x = Due.laid("n10;t1;t2;p4,0,0,0;");
        Due.is("through it", x.first(0, 0), NONE);
        Due.is("at its end", x.first(0, 1), 1);
        x = Due.laid("n10;t1;p4,0,0,0;p0,2,0,30;");
        Due.is("it waits in it", x.first(0, 0), 1);
    }

    /** "how often it was WET at the ends of these" (steps 1 to that): not of step 0. */
    private static void wetFrom1() {
        wets("n9;w3;p0,3,0,3;", 0, 0, 1, 2, 2, 2);
        wets("n9;w3;p0,2,0,0;", 0, 0, 1, 1, 1);
        wets("n9;w3;p0,3,0,0;", 0, 0, 0, 0);
        wets("n9;w1;p4,0,0,0;", 0, 0, 0, 0);
        wets("n9;w2;p4,0,0,0;", 0, 0, 1, 1);
        wets("n4;w0;w3;p0,2,0,0;", 0, 0, 1, 2, 2, 2, 3, 4);
    }

    /** "unless another PLATFORM is in it". */
    private static void wetAlone() {
        String two = "n9;a3;w3;p0,3,0,2;p0,3,0,4;";
        wets(two, 0, 0, 0, 0, 0, 0, 0);
        wets(two, 1, 0, 0, 1, 2, 2, 2);
        String comes = "n9;a3;w3;p0,2,0,2;p0,3,0,30;";
        wets(comes, 0, 0, 0, 0, 0);
        wets(comes, 1, 0, 1, 1, 2, 3);
        String beside = "n9;w3;p0,2,0,30;p0,3,0,30;";
        wets(beside, 1, 0, 1, 2, 3);
    }

    /** "how often it WAITED in steps 1 to that". */
    private static void waitedFrom1() {
        waits("n9;p0,3,0,0;p0,4,0,30;", 0, 0, 1, 2, 3);
        waits("n9;p0,3,0,2;p0,4,0,30;", 0, 0, 0, 1, 2);
        PlatformsLeave x = Due.laid("n24;p1,0,0,30;p0,16,0,0;");
        x.hold(1);
        Due.is("waits to 59", x.where(0, 59, 1), 0);
        Due.is("waits to 60", x.where(0, 60, 1), 1);
    }

    /** "FIRST: the step (0 ..) at whose end it is first AT a TRAIN; none." */
    private static void firstFrom0() {
        Due.is("in 0", Due.laid("n9;t3;p0,3,0,0;").first(0, 0), 0);
        Due.is("in 1", Due.laid("n9;t3;p0,2,0,0;").first(0, 0), 1);
        Due.is("in 8", Due.laid("n9;t2;p0,3,0,0;").first(0, 0), 8);
        PlatformsLeave x = Due.laid("n24;t15;t16;t17;p1,0,0,30;");
        Due.is("in 58", x.first(0, 0), 58);
        Due.is("in 60", x.first(0, 1), 60);
        Due.is("not in 60", x.first(0, 2), NONE);
        x = Due.laid("n9;t3;t2;p0,3,0,0;");
        x.hold(0);
        Due.is("held in 0", x.first(0, 0), 0);
        Due.is("held", x.first(0, 1), NONE);
    }

    /** "go nowhere in any of steps 31 to 60": one that goes in 30 for the last time, one in 31. */
    private static void hangFrom31() {
        PlatformsLeave x = Due.laid("n9;p0,0,0,30;p0,2,0,0;");
        x.hold(1);
        Due.is("goes in 30", x.where(0, 30, 0), 1);
        Due.is("hangs from 31 on", x.hang(), 1);
        x = Due.laid("n9;p0,0,0,30;p0,3,0,0;");
        x.hold(1);
        Due.is("goes in 31", x.where(0, 31, 0), 2);
        Due.is("hangs from 32 on", x.hang(), 0);
        x = Due.laid("n9;p4,0,0,30;p0,4,0,0;");
        x.hold(1);
        Due.is("an express, one cell in 31", x.where(0, 31, 0), 3);
        Due.is("went", x.hang(), 0);
        x = Due.laid("n9;p4,0,0,30;p0,3,0,0;");
        x.hold(1);
        Due.is("an express, two cells in 30", x.where(0, 60, 0), 2);
        Due.is("went nowhere in 31", x.hang(), 1);
    }

    /** "to 60": two slow ones that go in none of steps 31 to 59, and in 60 (found by chance, among very many). */
    private static void hangTo60() {
        PlatformsLeave x = Due.laid("n6;a1;a5;p3,0,1,23;p3,1,1,2;p1,2,1,3;p0,5,1,2;p3,1,1,0;");
        for (int s = 31; s <= 59; s++) Due.is("stays in " + s, x.where(2, s, 0), x.where(2, 30, 0));
        Due.is("goes in 60", x.where(2, 59, 0) - x.where(2, 60, 0), 1);
        Due.is("hangs not", x.hang() >> 2 & 1, 0);
        x = Due.laid("n4;a0;a2;p1,1,0,3;p3,3,1,4;p3,0,1,1;p3,2,1,21;p1,2,1,8;");
        for (int s = 31; s <= 59; s++) Due.is("stays in " + s, x.where(4, s, 0), x.where(4, 30, 0));
        Due.is("goes in 60", x.where(4, 59, 0) - x.where(4, 60, 0), 1);
        Due.is("hangs not", x.hang() >> 4 & 1, 0);
    }

    /** By the line as it is now, not by one that was asked for ahead of it, in which it went. */
    private static void hangByThisLine() {
        PlatformsLeave x = Due.laid("n9;p0,3,0,0;p0,4,0,0;p2,6,0,30;");
        Due.is("all go", x.hang(), 0);
        x.hold(1);
        Due.is("one goes nowhere at all", x.hang() & 1, 1);
        Due.is("another start helps not", x.start(0, 30), 0);
        Due.is("still nowhere", x.hang() & 1, 1);
        x.undo();
        x.undo();
        Due.is("all go again", x.hang(), 0);
    }

    /** "that are not HELD": of all, none, and bits by their numbers. */
    private static void hangNotHeld() {
        String five = "n9;p3,4,0,0;p0,3,0,0;p0,5,1,0;p0,2,0,0;p0,6,1,0;";
        PlatformsLeave x = Due.laid(five);
        Due.is("all five", x.hang(), 31);
        for (int p = 0; p < 5; p++) {
            x.hold(p);
            Due.is("but " + p, x.hang(), 31 - (1 << p));
            x.hold(p);
        }
        for (int p = 0; p < 5; p++) x.hold(p);
        Due.is("all held", x.hang(), 0);
        Due.is("none", Due.laid("n9;p0,0,0,30;p1,4,0,30;").hang(), 0);
    }
}
