import java.util.ArrayList;
import java.util.List;
import java.util.function.Supplier;
import java.util.function.ToIntFunction;

/** Of two objects made alike one gets a call more: that nothing that can be seen of it differs then. */
final class Twin {
    private final Supplier<PlatformsLeave> making;
    private final List<Integer> due;

    Twin(Supplier<PlatformsLeave> making) {
        this.making = making;
        due = trail(making.get());
    }

    /** The call must answer this, and change nothing. */
    void unchanged(String call, int answer, ToIntFunction<PlatformsLeave> calling) {
        PlatformsLeave x = making.get();
        Due.is(call, calling.applyAsInt(x), answer);
        Due.is("what " + call + " changed", trail(x).equals(due) ? 0 : 1, 0);
    }

    /** The call may answer anything but must change nothing. */
    void asks(String call, ToIntFunction<PlatformsLeave> calling) {
        PlatformsLeave x = making.get();
        calling.applyAsInt(x);
        Due.is("what " + call + " changed", trail(x).equals(due) ? 0 : 1, 0);
    }

    /** The call must change something: else the trail would see nothing. */
    void changed(String call, int answer, ToIntFunction<PlatformsLeave> calling) {
        PlatformsLeave x = making.get();
        Due.is(call, calling.applyAsInt(x), answer);
        Due.is("that " + call + " changed something", trail(x).equals(due) ? 0 : 1, 1);
    }

    /** All that is told, what came, what can be undone, what is kept, and the text: by calls that use it up. */
    private static List<Integer> trail(PlatformsLeave x) {
        List<Integer> seen = new ArrayList<>();
        told(x, seen);
        for (int p = 0; p < x.count(2); p++) {
            seen.add(x.fits(p));
            for (int what = 0; what < 3; what++) seen.add(x.where(p, 60, what));
        }
        for (int left = 0; left >= 0;) {
            left = x.undo();
            seen.add(left);
            settings(x, seen);
        }
        for (int left = 0; left >= 0;) {
            left = x.back();
            seen.add(left);
            settings(x, seen);
        }
        seen.add(x.fault());
        seen.add(x.lay());
        settings(x, seen);
        return seen;
    }

    private static void told(PlatformsLeave x, List<Integer> seen) {
        for (int what = 0; what < 9; what++) seen.add(x.count(what));
        for (int p = 0; p < x.count(2); p++) {
            for (int what = 0; what < 3; what++) seen.add(x.platform(p, what));
        }
        for (int t = 0; t < x.count(1); t++) seen.add(x.train(t));
        for (int c = 0; c < x.count(0); c++) seen.add(x.cell(c, 1));
        settings(x, seen);
    }

    private static void settings(PlatformsLeave x, List<Integer> seen) {
        int bits = 0;
        for (int p = 0; p < x.count(2); p++) {
            seen.add(x.platform(p, 3));
            bits = 2 * bits + x.platform(p, 4);
        }
        seen.add(bits);
        bits = 0;
        for (int c = 0; c < x.count(0); c++) bits = 2 * bits + x.cell(c, 0);
        seen.add(bits);
    }
}
