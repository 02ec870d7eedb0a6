/** Each sentence of the first part of the document that names an edge (A TEXT .. LAID), with what lies on both sides. */
public final class TextEdgesTest {
    private static final int NO = PlatformsLeave.NO, FULL = PlatformsLeave.FULL, NONE = PlatformsLeave.NONE;
    private static final int BAD = PlatformsLeave.BAD;

    public static void main(String[] args) {
        lettersAtMost();
        lettersOfAscii();
        lettersOfItems();
        oneOrTwoFigures();
        partedByCommas();
        semicolonBehind();
        ring();
        twelveWithout();
        ringAhead();
        cellsOfTheRing();
        trainsAtMost();
        kinds();
        ways();
        starts();
        platformsAtMost();
        noOtherOne();
        passingAhead();
        toldOnceMore();
        firstOfFaults();
        aPlatformAtLeast();
        refusedLay();
        layTwice();
        wipes();
        Due.end();
    }

    private static void fault(String text, int want) {
        PlatformsLeave x = new PlatformsLeave();
        Due.tell(x, text);
        Due.is("length of " + text, x.count(8), text.length());
        Due.is("fault of " + text, x.fault(), want);
        boolean lays = want == NONE && text.indexOf('p') >= 0;
        int many = text.length() - text.replace("p", "").length();
        Due.is("lay of " + text, x.lay(), lays ? many : NO);
        if (!lays) Due.is("platforms as at first, " + text, x.count(2), 4);
    }

    /** "A TEXT is letters (200 at most)": the 201st is refused, and what stands is the text of 200. */
    private static void lettersAtMost() {
        PlatformsLeave x = new PlatformsLeave();
        String text = "p0,0,0,0;" + "w0;".repeat(63) + "t1";
        for (int i = 0; i < text.length(); i++) Due.is("letter " + i, x.write(text.charAt(i)), i + 1);
        Due.is("how many", x.count(8), 200);
        Due.is("unfinished", x.fault(), 198);
        Due.is("letter 201", x.write(';'), FULL);
        Due.is("how many still", x.count(8), 200);
        Due.is("unfinished still", x.fault(), 198);
        Due.is("not laid", x.lay(), NO);
        Due.is("wiped", x.wipe(), 200);
        text = "p0,0,0,0;" + "w00;".repeat(2) + "w0;".repeat(60) + "t1;";
        for (int i = 0; i < text.length(); i++) Due.is("letter " + i, x.write(text.charAt(i)), i + 1);
        Due.is("200 letters, no fault", x.fault(), NONE);
        Due.is("one more", x.write('x'), FULL);
        Due.is("laid", x.lay(), 1);
        Due.is("the last item", x.train(0), 1);
    }

    /** "A letter (32 to 126, as in ASCII)". */
    private static void lettersOfAscii() {
        PlatformsLeave x = new PlatformsLeave();
        int many = 0;
        for (int letter = -40; letter <= 300; letter++) {
            boolean good = letter >= 32 && letter <= 126;
            if (good) many++;
            Due.is("write " + letter, x.write(letter), good ? many : BAD);
        }
        Due.is("letters", x.count(8), 95);
        int[] far = {'t' + 256, 't' + 65536, 't' - 256, Integer.MIN_VALUE + 't', Integer.MAX_VALUE, Integer.MIN_VALUE};
        for (int letter : far) Due.is("write " + letter, x.write(letter), BAD);
        Due.is("letters still", x.count(8), 95);
    }

    /** "each a letter, then numbers": of all letters n, t, p, a, w alone. */
    private static void lettersOfItems() {
        for (int letter = 32; letter < 127; letter++) {
            boolean one = "ntaw".indexOf(letter) >= 0;
            fault((char) letter + "9;", one ? NONE : 0);
            fault("t3;" + (char) letter + "9;", one && letter != 'n' ? NONE : 3);
            fault((char) letter + "0,0,0,0;", letter == 'p' ? NONE : 0);
        }
    }

    /** "numbers (one or two figures)". */
    private static void oneOrTwoFigures() {
        String[] letters = {"t", "a", "w"};
        for (String letter : letters) {
            fault(letter + ";", 0);
            fault(letter + "9;", NONE);
            fault(letter + "09;", NONE);
            fault(letter + "11;", NONE);
            fault(letter + "009;", 0);
            fault(letter + "011;", 0);
        }
        fault("n9;", NONE);
        fault("n09;", NONE);
        fault("n009;", 0);
        fault("n;", 0);
        fault("p00,00,00,00;", NONE);
        fault("p04,11,01,30;", NONE);
        String[] wrong = {"p,0,0,0;", "p0,,0,0;", "p0,0,,0;", "p0,0,0,;", "p000,0,0,0;", "p0,000,0,0;", "p0,0,000,0;", "p0,0,0,000;"};
        for (String text : wrong) fault(text, 0);
        for (int letter = 32; letter < 127; letter++) {
            boolean figure = letter >= '0' && letter <= '9';
            fault("t" + (char) letter + ";", figure ? NONE : 0);
            fault("n24;t1" + (char) letter + ";", figure ? NONE : letter == ';' ? 7 : 4);
        }
    }

    /** "parted by ,": as many numbers as the item has, and nothing else between them. */
    private static void partedByCommas() {
        for (int letter = 32; letter < 127; letter++) {
            boolean comma = letter == ',';
            boolean figure = letter >= '0' && letter <= '9';
            if (!figure) fault("p0" + (char) letter + "0,0,0;", comma ? NONE : 0);
            if (!figure) fault("p0,0,0" + (char) letter + "0;", comma ? NONE : 0);
        }
        String[] wrong = {"p0;", "p0,0;", "p0,0,0;", "p0,0,0,0,0;", "t1,1;", "n9,9;", "a1,1;", "w1,1;", "p0,0,0,0,;", "t,1;", "t1,;"};
        for (String text : wrong) fault(text, 0);
    }

    /** "and a ; behind the last one". */
    private static void semicolonBehind() {
        for (int letter = 32; letter < 127; letter++) {
            boolean figure = letter >= '0' && letter <= '9';
            if (!figure) fault("t3" + (char) letter, letter == ';' ? NONE : 0);
        }
        fault("t3", 0);
        fault("t33", 0);
        fault("p0,0,0,0", 0);
        fault("t3;;", 3);
        fault(";t3;", 0);
        fault("t3; ", 3);
        fault("t3; t4;", 3);
    }

    /** "a ring of N CELLS .. (4 to 24". */
    private static void ring() {
        for (int n = 0; n <= 99; n++) {
            boolean good = n >= 4 && n <= 24;
            fault("n" + n + ";p0,0,0,0;", good ? NONE : 0);
            if (good) Due.is("cells by " + n, Due.laid("n" + n + ";p0,0,0,0;").count(0), n);
        }
    }

    /** "12 without". */
    private static void twelveWithout() {
        PlatformsLeave x = Due.laid("n20;p0,19,0,0;");
        Due.tell(x, "p0,0,1,0;");
        Due.is("laid", x.lay(), 1);
        Due.is("cells without", x.count(0), 12);
        Due.is("down round", x.where(0, 1, 0), 11);
        Due.is("cell 11", x.cell(11, 0), 0);
        Due.is("cell 12", x.cell(12, 0), BAD);
        fault("p0,11,0,0;", NONE);
        fault("p0,12,0,0;", 0);
    }

    /** "no other ITEM ahead of it but n". */
    private static void ringAhead() {
        fault("n8;p0,0,0,0;", NONE);
        fault("n8;n9;n24;p0,23,0,0;", NONE);
        fault("n24;n9;p0,9,0,0;", 7);
        String[] ahead = {"t0;", "a0;", "w0;", "p0,0,0,0;"};
        for (String item : ahead) {
            fault(item + "n8;", item.length());
            fault("n8;" + item + "n8;", 3 + item.length());
        }
    }

    /** "CELLS, 0 to N less 1": for each item that tells a cell, by the smallest ring, the largest, and without. */
    private static void cellsOfTheRing() {
        String[] rings = {"n4;", "n5;", "n24;", ""};
        int[] cells = {4, 5, 24, 12};
        for (int i = 0; i < rings.length; i++) {
            for (int c = 0; c < 100; c++) {
                int want = c < cells[i] ? NONE : rings[i].length();
                fault(rings[i] + "t" + c + ";", want);
                fault(rings[i] + "a" + c + ";", want);
                fault(rings[i] + "w" + c + ";", want);
                fault(rings[i] + "p0," + c + ",0,0;", want);
            }
        }
    }

    /** "a TRAIN stands at CELL X; 5 at most, 0, 1, ..". */
    private static void trainsAtMost() {
        fault("t9;t7;t5;t3;t1;", NONE);
        fault("t9;t7;t5;t3;t1;t0;", 15);
        fault("t9;t9;t9;t9;t9;t9;", 15);
        PlatformsLeave x = Due.laid("t9;t7;t5;t3;t9;p0,0,0,0;");
        int[] due = {9, 7, 5, 3, 9};
        for (int t = 0; t < 5; t++) Due.is("train " + t, x.train(t), due[t]);
        Due.is("no sixth train", x.train(5), BAD);
        Due.is("trains", x.count(1), 5);
        Due.is("no train", Due.laid("p0,0,0,0;").train(0), BAD);
    }

    /** "KIND K (0 PLAIN, 1 SLOW, 2 MILK, 3 POLITE, 4 EXPRESS)". */
    private static void kinds() {
        for (int k = 0; k < 100; k++) fault("p" + k + ",0,0,0;", k <= 4 ? NONE : 0);
        for (int k = 0; k <= 4; k++) Due.is("kind " + k, Due.laid("p" + k + ",0,0,0;").platform(0, 0), k);
    }

    /** "going up (W 0) or down (1)". */
    private static void ways() {
        for (int w = 0; w < 100; w++) fault("p0,0," + w + ",0;", w <= 1 ? NONE : 0);
        for (int w = 0; w <= 1; w++) Due.is("way " + w, Due.laid("p0,0," + w + ",0;").platform(0, 2), w);
    }

    /** "starts in step S (0 to 30)". */
    private static void starts() {
        for (int s = 0; s < 100; s++) fault("p0,0,0," + s + ";", s <= 30 ? NONE : 0);
        for (int s = 0; s <= 30; s++) Due.is("start " + s, Due.laid("p0,0,0," + s + ";").platform(0, 3), s);
    }

    /** "5 at most, 0, 1, .." of platforms. */
    private static void platformsAtMost() {
        String five = "p0,9,0,0;p1,7,1,1;p2,5,0,2;p3,3,1,3;p4,1,0,4;";
        fault(five, NONE);
        fault(five + "p0,0,0,0;", 45);
        PlatformsLeave x = Due.laid(five);
        for (int p = 0; p < 5; p++) {
            int[] due = {p, 9 - 2 * p, p % 2, p, 0};
            for (int what = 0; what < 5; what++) Due.is("platform " + p + " " + what, x.platform(p, what), due[what]);
        }
        Due.is("no sixth platform", x.platform(5, 0), BAD);
    }

    /** "at CELL X (where no other one is". */
    private static void noOtherOne() {
        fault("p0,0,0,0;p0,1,0,0;", NONE);
        fault("p0,0,0,0;p0,0,0,0;", 9);
        fault("p0,0,0,0;p0,1,0,0;p4,0,1,9;", 18);
        fault("n24;p0,23,0,0;p0,23,0,0;", 14);
        fault("t0;w0;p0,0,0,0;p0,0,0,0;", 15);
    }

    /** "unless it is a PASSING place told ahead: 2 there". */
    private static void passingAhead() {
        fault("a0;p0,0,0,0;p0,0,0,0;", NONE);
        fault("p0,0,0,0;a0;p0,0,0,0;", NONE);
        fault("p0,0,0,0;p0,0,0,0;a0;", 9);
        fault("a0;p0,0,0,0;p0,0,0,0;p0,0,0,0;", 21);
        fault("a1;p0,0,0,0;p0,0,0,0;", 12);
        fault("a0;a1;p0,0,0,0;p0,1,0,0;p0,0,0,0;p0,1,0,0;", NONE);
        fault("n24;a23;p0,23,0,0;p0,23,0,0;", NONE);
        fault("n24;a22;p0,23,0,0;p0,23,0,0;", 18);
    }

    /** "(no matter if told once more)". */
    private static void toldOnceMore() {
        fault("a3;a3;a3;p0,3,0,0;p0,3,0,0;", NONE);
        fault("a3;a3;a3;p0,3,0,0;p0,3,0,0;p0,3,0,0;", 27);
        PlatformsLeave x = Due.laid("a3;a3;w4;w4;p0,0,0,0;");
        Due.is("one passing place", x.count(3), 1);
        Due.is("it is one", x.cell(3, 0), 1);
        Due.is("rain", x.cell(4, 1), 1);
        Due.is("taken away at once", x.pass(3), 0);
        Due.is("none then", x.count(3), 0);
    }

    /** "FAULT: the place of the first letter of the first ITEM that is not so". */
    private static void firstOfFaults() {
        fault("t99;t98;", 0);
        fault("t9;t99;t98;", 3);
        fault("t9;p0,0,0,31;p5,0,0,0;", 3);
        fault("n12;t3;t4;p0,0,0,0;p0,0,0,0;w99;", 19);
        fault("t9;x", 3);
        fault("t9;t", 3);
        fault("x", 0);
        fault("", NONE);
    }

    /** "LAID is a TEXT without FAULT, of a PLATFORM at least (NO else". */
    private static void aPlatformAtLeast() {
        fault("n12;", NONE);
        fault("t3;a4;w5;", NONE);
        fault("p0,0,0,0;", NONE);
        fault("p0,0,0,0;t12;", 9);
        fault("t12;p0,0,0,0;", 0);
    }

    /** NO: what is laid stays, the text too. */
    private static void refusedLay() {
        PlatformsLeave x = Due.laid("n9;t8;a1;a2;w3;p1,4,1,5;p2,6,0,7;");
        String[] refused = {"", "n20;", "n20;t19;a4;w4;", "n20;t1;a5;w6;p0,0,0,0;p3,1,0,9;t20;", "n20;p0,0,0,0;q"};
        int[] counts = {9, 1, 2, 2, 0, 0, 0, 0};
        for (String text : refused) {
            Due.tell(x, text);
            Due.is("lay of " + text, x.lay(), NO);
            for (int what = 0; what < 8; what++) Due.is("count " + what + " behind " + text, x.count(what), counts[what]);
            Due.is("text stays", x.count(8), text.length());
            Due.is("start stays", x.platform(0, 3), 5);
            Due.is("kind stays", x.platform(1, 0), 2);
            Due.is("way stays", x.platform(0, 2), 1);
            Due.is("train stays", x.train(0), 8);
            Due.is("rain stays", x.cell(3, 1), 1);
            Due.is("places stay", x.cell(1, 0) + x.cell(2, 0), 2);
            Due.is("it goes as before", x.where(1, 7, 0), 7);
        }
    }

    /** "none HELD, nothing CAME, UNDONE, KEPT": all by a text that is laid, once more too. */
    private static void layTwice() {
        PlatformsLeave x = Due.laid("t3;a4;p0,0,0,5;p0,1,0,6;");
        x.hold(1);
        x.keep();
        x.came(0, 1, true);
        x.start(0, 9);
        x.pass(4);
        x.pass(5);
        x.keep();
        Due.is("laid again", x.lay(), 2);
        int[] counts = {12, 1, 2, 1, 0, 0, 0, 0, 24};
        for (int what = 0; what < 9; what++) Due.is("count " + what, x.count(what), counts[what]);
        Due.is("start as told", x.platform(0, 3), 5);
        Due.is("not held", x.platform(1, 4), 0);
        Due.is("passing as told", x.cell(4, 0), 1);
        Due.is("not passing", x.cell(5, 0), 0);
        Due.is("nothing came", x.fits(0), Integer.MAX_VALUE);
        Due.is("nothing is undone", x.undo(), NO);
        Due.is("nothing is kept", x.back(), NO);
        Due.is("one can be kept", x.keep(), 1);
        Due.is("one can come", x.came(0, 60, false), 1);
        Due.is("one can be changed", x.hold(0), 1);
        Due.is("and undone", x.undo(), 0);
    }

    /** "THE TEXT is empty: how long it was"; what is laid stays. */
    private static void wipes() {
        PlatformsLeave x = new PlatformsLeave();
        Due.is("nothing", x.wipe(), 0);
        Due.is("one letter", x.write('t'), 1);
        Due.is("one", x.wipe(), 1);
        Due.is("none", x.wipe(), 0);
        Due.is("first letter again", x.write('t'), 1);
        Due.is("laid stays", x.count(2), 4);
    }
}
