import java.util.ArrayList;
import java.util.List;

/** Promise 5: what is laid answers as on a new object, whatever was laid, changed, asked ahead of it. */
public final class LaidOverTest {
    private static final String LARGE =
            "n24;t20;t21;t22;t23;t3;a0;a4;a8;a20;a23;w3;w4;w20;w21;w23;p3,20,1,0;p2,21,1,2;p4,22,0,0;p1,23,0,1;p0,3,0,0;";
    private static final String SMALL = "n4;t0;t3;t1;p0,0,0,1;p1,2,0,0;";
    private static final String LEAST = "n4;p4,3,1,0;";
    private static final String UNTOLD = "t3;t4;a3;w3;p3,3,0,0;p2,3,1,5;p0,9,1,30;";
    private static final String[] TEXTS = {LARGE, SMALL, LEAST, UNTOLD};
    private static final int GROUPS = 8;

    public static void main(String[] args) {
        for (String before : TEXTS) {
            for (String text : TEXTS) {
                for (int group = 0; group < GROUPS; group++) alike(before, text, group);
            }
        }
        fiveAndFive();
        Due.end();
    }

    private static void alike(String before, String text, int group) {
        List<Integer> due = answers(Due.laid(text), group);
        PlatformsLeave over = Due.laid(before);
        change(over);
        answers(over, group);
        Due.tell(over, text);
        over.lay();
        Due.is(text + " over " + before + " group " + group, answers(over, group).equals(due) ? 0 : 1, 0);
        Due.is("answers of " + text + " group " + group, due.isEmpty() ? 1 : 0, 0);
    }

    private static void change(PlatformsLeave x) {
        for (int p = 0; p < x.count(2); p++) {
            x.start(p, 30 - p);
            x.hold(p);
        }
        for (int c = 0; c < x.count(0); c += 3) x.pass(c);
        for (int t = 0; t < x.count(1); t++) x.came(t, 9, true);
        x.keep();
        x.keep();
    }

    /** A few groups, so that no object is used for more calls than the document tells. */
    private static List<Integer> answers(PlatformsLeave x, int group) {
        List<Integer> seen = new ArrayList<>();
        switch (group) {
            case 0: told(x, seen); break;
            case 1: case 2: case 3: steps(x, seen, group - 1); break;
            case 4: trips(x, seen); break;
            case 5: trials(x, seen); break;
            case 6: meetings(x, seen); break;
            default: chances(x, seen); break;
        }
        return seen;
    }

    private static void told(PlatformsLeave x, List<Integer> seen) {
        for (int what = 0; what < 8; what++) seen.add(x.count(what));
        for (int p = 0; p < 5; p++) {
            for (int what = 0; what < 5; what++) seen.add(x.platform(p, what));
        }
        for (int t = 0; t < 5; t++) seen.add(x.train(t));
        for (int c = 0; c < 24; c++) seen.add(x.cell(c, 0) * 10 + x.cell(c, 1));
        seen.add(x.hang());
        for (int k = 0; k < 3; k++) seen.add(x.places(k));
    }

    private static void steps(PlatformsLeave x, List<Integer> seen, int what) {
        for (int p = 0; p < 5; p++) {
            for (int s = 0; s <= 60; s += 5) seen.add(x.where(p, s, what));
        }
    }

    private static void trips(PlatformsLeave x, List<Integer> seen) {
        for (int a = 0; a < 5; a++) {
            for (int b = 0; b < 5; b++) seen.add(x.trip(a, b, 0) * 100 + x.trip(a, b, 1));
        }
    }

    private static void trials(PlatformsLeave x, List<Integer> seen) {
        for (int p = 0; p < 5; p++) {
            seen.add(x.fits(p));
            for (int t = 0; t < 5; t++) {
                seen.add(x.first(p, t));
                seen.add(x.best(p, t, 0) * 100 + x.best(p, t, 1));
            }
        }
    }

    private static void meetings(PlatformsLeave x, List<Integer> seen) {
        for (int p = 0; p < 5; p++) {
            for (int q = 0; q < 5; q++) {
                seen.add(x.clocks(p, q, 0) * 100 + x.clocks(p, q, 1));
                seen.add(x.from(p, q, 17, 0) * 100 + x.from(p, q, 17, 1));
            }
        }
    }

    private static void chances(PlatformsLeave x, List<Integer> seen) {
        for (int p = 0; p < 5; p++) {
            for (int t = 0; t < 5; t++) {
                seen.add(x.floods(p, t, 6, 4, 0));
                seen.add(x.floods(p, t, 6, 4, 1));
            }
        }
        for (int z = 0; z < 10000; z += 909) seen.add(x.day(z, 0) * 100 + x.day(z, 1));
    }

    /** As many as there can be, of all: each number to the last is one that is told, and the next is not. */
    private static void fiveAndFive() {
        for (int p = 0; p <= 5; p++) {
            for (int t = 0; t <= 5; t++) {
                PlatformsLeave x = Due.laid(LARGE);
                boolean bad = p == 5 || t == 5;
                int[] got = {x.first(p, t), x.best(p, t, 0), x.best(p, t, 1), x.from(p, t, 1, 0), x.from(p, t, 1, 1),
                    x.floods(p, t, 6, 5, 0), x.floods(p, t, 6, 5, 1), p == t ? -1 : x.trip(p, t, 0),
                    p == t ? -1 : x.trip(p, t, 1), p == t ? -1 : x.clocks(p, t, 0), p == t ? -1 : x.clocks(p, t, 1)};
                for (int i = 0; i < got.length; i++) {
                    boolean alike = i > 6 && p == t;
                    Due.is("call " + i + " of " + p + " and " + t, got[i] == -1 ? 1 : 0, bad || alike ? 1 : 0);
                }
            }
        }
    }
}
