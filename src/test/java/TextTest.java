/** Promises 1 to 5: a new object, write, wipe, fault, lay. */
public final class TextTest {
    private static final int BAD = PlatformsLeave.BAD, NO = PlatformsLeave.NO;
    private static final int FULL = PlatformsLeave.FULL, NONE = PlatformsLeave.NONE;

    public static void main(String[] args) {
        newObject();
        writing();
        items();
        rings();
        numbers();
        ranges();
        many();
        twoInACell();
        firstFault();
        unfinished();
        laying();
        Due.end();
    }

    private static void newObject() {
        PlatformsLeave x = new PlatformsLeave();
        int[] counts = {12, 3, 4, 2, 0, 0, 0, 0, 0};
        for (int what = 0; what < counts.length; what++) Due.is("new count " + what, x.count(what), counts[what]);
        int[][] platforms = {{0, 0, 0, 0, 0}, {2, 5, 1, 0, 0}, {4, 9, 0, 3, 0}, {3, 2, 1, 1, 0}};
        for (int p = 0; p < 4; p++) {
            for (int what = 0; what < 5; what++) {
                Due.is("new platform " + p + " " + what, x.platform(p, what), platforms[p][what]);
            }
        }
        int[] trains = {3, 7, 10};
        for (int t = 0; t < 3; t++) Due.is("new train " + t, x.train(t), trains[t]);
        for (int c = 0; c < 12; c++) {
            Due.is("new passing place " + c, x.cell(c, 0), c == 6 || c == 11 ? 1 : 0);
            Due.is("new rain " + c, x.cell(c, 1), c == 4 || c == 5 ? 1 : 0);
        }
        Due.is("new fault", x.fault(), NONE);
        Due.is("new lay", x.lay(), NO);
        Due.is("new undo", x.undo(), NO);
        Due.is("new back", x.back(), NO);
    }

    private static void writing() {
        PlatformsLeave x = new PlatformsLeave();
        int[] bad = {31, 127, 0, -1, 256 + 65, Integer.MIN_VALUE, Integer.MAX_VALUE};
        for (int letter : bad) Due.is("write " + letter, x.write(letter), BAD);
        Due.is("nothing written", x.count(8), 0);
        for (int i = 1; i <= 200; i++) Due.is("letter " + i, x.write(i % 2 == 0 ? 32 : 126), i);
        Due.is("letter 201", x.write(65), FULL);
        Due.is("letter 201, bad too", x.write(31), BAD);
        Due.is("length", x.count(8), 200);
        Due.is("wipe", x.wipe(), 200);
        Due.is("length", x.count(8), 0);
        Due.is("wipe of none", x.wipe(), 0);
        Due.is("write again", x.write(65), 1);
    }

    private static void fault(String text, int want) {
        PlatformsLeave x = new PlatformsLeave();
        Due.tell(x, text);
        Due.is("fault of " + text, x.fault(), want);
        Due.is("length of " + text, x.count(8), text.length());
        Due.is("trains as before " + text, x.count(1), 3);
    }

    private static void items() {
        fault("", NONE);
        fault("n12;t3;a6;w4;p0,0,0,0;", NONE);
        String[] wrong = {";", "x1;", "N12;", "T3;", " ", " t3;", "t", "t;", "t3", "t3,", "t3:", "t,3;", "t3;;",
            "tt3;", "t3 ;", "t-1;", "t3,4;", "a6,1;", "w4,1;", "n12,1;", "p;", "p0;", "p0,0,0;", "p0,0,0,",
            "p0,0,0,0", "p0,0,0,0,", "p0,0,0,0,0;", "p0;0,0,0;", "p0,,0,0;", "p,0,0,0;", "3;", "t3.", "p0,0 ,0,0;"};
        for (String text : wrong) fault(text, text.equals("t3;;") ? 3 : 0);
        for (int letter = 32; letter < 127; letter++) {
            boolean known = "tawn".indexOf(letter) >= 0;
            fault((char) letter + "5;", known ? NONE : 0);
        }
    }

    private static void rings() {
        fault("n3;", 0);
        fault("n4;", NONE);
        fault("n24;", NONE);
        fault("n25;", 0);
        fault("n0;", 0);
        fault("n04;", NONE);
        fault("n4;n24;t23;", NONE);
        fault("n24;n4;t4;", 7);
        fault("t3;n12;", 3);
        fault("a3;n12;", 3);
        fault("w3;n12;", 3);
        fault("p0,0,0,0;n12;", 9);
        fault("n12;t3;n12;", 7);
        fault("t11;", NONE);
        fault("t12;", 0);
        Due.is("the last ring", Due.laid("n24;n5;p0,0,0,0;").count(0), 5);
        Due.is("no ring told", Due.laid("p0,0,0,0;").count(0), 12);
    }

    private static void numbers() {
        fault("t03;", NONE);
        fault("t003;", 0);
        fault("t00;", NONE);
        fault("n12;t3;a6;p00,01,00,00;", NONE);
        fault("p000,1,0,0;", 0);
        fault("p0,1,0,000;", 0);
        fault("n012;", 0);
    }

    private static void ranges() {
        String[] letters = {"t", "a", "w"};
        for (String letter : letters) {
            fault("n24;" + letter + "23;", NONE);
            fault("n24;" + letter + "24;", 4);
            fault("n24;" + letter + "0;", NONE);
            fault("n5;" + letter + "5;", 3);
            fault("n5;" + letter + "4;", NONE);
            fault("n5;" + letter + "4;" + letter + "4;", NONE);
        }
        fault("p4,0,0,0;", NONE);
        fault("p5,0,0,0;", 0);
        fault("p0,11,0,0;", NONE);
        fault("p0,12,0,0;", 0);
        fault("p0,0,1,0;", NONE);
        fault("p0,0,2,0;", 0);
        fault("p0,0,0,30;", NONE);
        fault("p0,0,0,31;", 0);
        fault("n4;p0,4,0,0;", 3);
    }

    private static void many() {
        fault("t0;t0;t0;t0;t0;", NONE);
        fault("t0;t0;t0;t0;t0;t0;", 15);
        String five = "p0,0,0,0;p0,1,0,0;p0,2,0,0;p0,3,0,0;p0,4,0,0;";
        fault(five, NONE);
        fault(five + "p0,5,0,0;", 45);
        fault(five + "t0;t1;t2;t3;t4;", NONE);
        StringBuilder full = new StringBuilder("n12;");
        while (full.length() < 200) full.append("a00;");
        fault(full.toString(), NONE);
    }

    private static void twoInACell() {
        fault("p0,3,0,0;p1,3,0,0;", 9);
        fault("a3;p0,3,0,0;p1,3,0,0;", NONE);
        fault("p0,3,0,0;a3;p1,3,0,0;", NONE);
        fault("p0,3,0,0;p1,3,0,0;a3;", 9);
        fault("a3;p0,3,0,0;p1,3,0,0;p2,3,0,0;", 21);
        fault("a3;a3;p0,3,0,0;p1,3,0,0;p2,3,0,0;", 24);
        fault("a4;p0,3,0,0;p1,3,0,0;", 12);
    }

    private static void firstFault() {
        fault("n12;t3;x;t99;", 7);
        fault("t3;t12;t", 3);
        fault("t3;t4", 3);
        fault("t3;p0,0,0,0;p0,1,0,31;p9,1,0,0;", 12);
    }

    /** What was written ahead of a wipe does not end an item, nor does the end of the room. */
    private static void unfinished() {
        PlatformsLeave x = new PlatformsLeave();
        Due.tell(x, "t3;a44;p0,0,0,0;");
        String[] begun = {"t", "t3", "t3;a", "t3;a4", "t3;a44", "t3;a04;p0,0,0", "t3;a04;p0,0,0,"};
        for (String text : begun) {
            Due.tell(x, text);
            Due.is("fault of " + text, x.fault(), text.lastIndexOf(';') + 1);
        }
        String almost = "t3;" + "a00;".repeat(49);
        String[] last = {"p", "1", "t"};
        for (String letter : last) {
            Due.tell(x, almost + letter);
            Due.is("full, fault at the last letter " + letter, x.fault(), 199);
        }
        String ahead = "t3;t4;" + "a00;".repeat(48);
        String[] two = {"t1", "t,", "a1", "p0", "w9"};
        for (String letters : two) {
            Due.tell(x, ahead + letters);
            Due.is("full, fault at the last but one " + letters, x.fault(), 198);
        }
        Due.tell(x, "p0,0,0,0;" + "a00;".repeat(47) + "w1;");
        Due.is("full without fault", x.fault(), NONE);
        Due.is("and laid", x.lay(), 1);
        Due.is("full", x.write('t'), FULL);
    }

    private static void laying() {
        PlatformsLeave x = new PlatformsLeave();
        x.start(0, 9);
        x.hold(1);
        x.pass(8);
        x.came(0, 5, true);
        x.keep();
        String[] refused = {"", "n12;t3;", "p0,0,0,0;x", "p0,0,0,31;"};
        for (String text : refused) {
            Due.tell(x, text);
            Due.is("lay of " + text, x.lay(), NO);
            Due.is("as before " + text, x.count(2), 4);
            Due.is("start as before " + text, x.platform(0, 3), 9);
            Due.is("held as before " + text, x.count(4), 1);
            Due.is("places as before " + text, x.count(3), 3);
            Due.is("came as before " + text, x.count(5), 1);
            Due.is("changes as before " + text, x.count(6), 3);
            Due.is("kept as before " + text, x.count(7), 1);
        }
        Due.tell(x, "n20;t19;a7;a7;w8;p3,7,1,30;p1,7,0,4;");
        Due.is("lay", x.lay(), 2);
        int[] counts = {20, 1, 2, 1, 0, 0, 0, 0, 36};
        for (int what = 0; what < 9; what++) Due.is("laid count " + what, x.count(what), counts[what]);
        int[][] platforms = {{3, 7, 1, 30, 0}, {1, 7, 0, 4, 0}};
        for (int p = 0; p < 2; p++) {
            for (int what = 0; what < 5; what++) Due.is("laid " + what, x.platform(p, what), platforms[p][what]);
        }
        Due.is("laid undo", x.undo(), NO);
        Due.is("laid back", x.back(), NO);
        Due.is("laid fits", x.fits(0), Integer.MAX_VALUE);
        Due.is("laid train", x.train(0), 19);
        Due.is("no second train", x.train(1), BAD);
        x.start(0, 2);
        x.pass(7);
        Due.is("lay once more", x.lay(), 2);
        Due.is("start as told", x.platform(0, 3), 30);
        x.wipe();
        Due.is("lay of nothing", x.lay(), NO);
        Due.is("still laid", x.count(0), 20);
    }
}
