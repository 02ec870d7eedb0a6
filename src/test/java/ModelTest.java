import java.util.Random;

/** Long runs of calls by chance, each answer held against the model's. */
public final class ModelTest {
    private static final int RUNS = 1500;
    private static final int CALLS = 500;

    private final Random chance;
    private final PlatformsLeave x = new PlatformsLeave();
    private final Model model = new Model();
    private final int run;

    private ModelTest(int run) {
        this.run = run;
        chance = new Random(run);
    }

    public static void main(String[] args) {
        for (int run = 0; run < RUNS; run++) new ModelTest(run).go();
        Due.end();
    }

    private void go() {
        int calls = 0;
        if (run % 8 != 0) calls += lay(text(), "");
        while (calls < CALLS) {
            if (chance.nextInt(150) == 0) calls += lay(text(), "again ");
            call(chance.nextInt(27));
            calls++;
        }
    }

    private int lay(String text, String how) {
        is(how + "wipe()", x.wipe(), model.wipe());
        for (int i = 0; i < text.length(); i++) {
            is("write " + i, x.write(text.charAt(i)), model.write(text.charAt(i)));
        }
        is("fault() of " + text, x.fault(), model.fault());
        is("lay() of " + text, x.lay(), model.lay());
        return text.length() + 3;
    }

    private int below(int n) {
        return chance.nextInt(n);
    }

    /** Mostly a text without fault; a few with letters put wrong. */
    private String text() {
        StringBuilder text = new StringBuilder();
        int cells = 12;
        if (below(6) > 0) {
            cells = below(3) == 0 ? 4 + below(3) : 4 + below(21);
            text.append('n').append(cells).append(';');
        }
        int items = 4 + below(18);
        for (int i = 0; i < items; i++) text.append(item(below(40) == 0 ? cells + 1 : cells));
        if (below(4) > 0) text.append(item(cells)).append('p').append(below(5)).append(",0,0,0;");
        while (below(12) == 0 && text.length() > 0) {
            text.setCharAt(below(text.length()), "nptaw0123456789,; ".charAt(below(18)));
        }
        return text.toString();
    }

    private String item(int cells) {
        int sort = below(8);
        if (sort < 2) return "t" + below(cells) + ";";
        if (sort < 4) return "a" + below(cells) + ";";
        if (sort == 4) return "w" + below(cells) + ";";
        if (below(30) == 0) return "n" + below(30) + ";";
        int start = below(3) == 0 ? below(32) : below(5);
        return "p" + below(below(20) == 0 ? 6 : 5) + "," + below(cells) + "," + below(2) + "," + start + ";";
    }

    /** A number below n, or now and then one that is not. */
    private int number(int n) {
        int kind = below(40);
        if (kind == 0) return -1 - below(3);
        if (kind == 1) return n + below(3);
        if (kind == 2 && below(4) == 0) return below(2) == 0 ? Integer.MIN_VALUE : Integer.MAX_VALUE;
        return below(Math.max(n, 1));
    }

    private int platform() {
        return number(model.count(2));
    }

    private int train() {
        return number(model.count(1));
    }

    private int step() {
        return below(3) == 0 ? number(61) : number(12);
    }

    private void is(String call, int got, int want) {
        Due.is("run " + run + ": " + call, got, want);
    }

    private void call(int which) {
        if (which < 11) callOfState(which);
        else callOfSteps(which);
    }

    private void callOfState(int which) {
        int p = platform();
        int t = train();
        int c = number(model.count(0));
        int what = number(3);
        int s = below(2) == 0 ? number(31) : number(8);
        switch (which) {
            case 0: is("platform", x.platform(p, what + 2), model.platform(p, what + 2)); break;
            case 1: is("train", x.train(t), model.train(t)); break;
            case 2: is("cell", x.cell(c, what), model.cell(c, what)); break;
            case 3: is("start", x.start(p, s), model.start(p, s)); break;
            case 4: if (below(3) == 0) is("hold", x.hold(p), model.hold(p)); break;
            case 5: is("pass", x.pass(c), model.pass(c)); break;
            case 6: is("undo", x.undo(), model.undo()); break;
            case 7: is("keep", x.keep(), model.keep()); break;
            case 8: if (below(3) == 0) is("back", x.back(), model.back()); break;
            case 9: if (below(3) == 0) is("forget", x.forget(), model.forget()); break;
            default: for (int k = -1; k < 10; k++) is("count " + k, x.count(k), model.count(k)); break;
        }
    }

    private void callOfSteps(int which) {
        int p = platform();
        int t = train();
        int s = step();
        int what = number(2);
        int n = number(7);
        switch (which) {
            case 11: case 12: case 13: is("where", x.where(p, s, n % 3), model.where(p, s, n % 3)); break;
            case 14: is("first", x.first(p, t), model.first(p, t)); break;
            case 15: is("hang", x.hang(), model.hang()); break;
            case 16: is("trip", x.trip(t, s % 5, what), model.trip(t, s % 5, what)); break;
            case 17: is("best", x.best(p, t, what), model.best(p, t, what)); break;
            case 18: if (below(8) == 0) is("places", x.places(n % 4), model.places(n % 4)); break;
            case 19: is("came", x.came(t, s, what == 0), model.came(t, s, what == 0)); break;
            case 20: case 21: is("fits", x.fits(p), model.fits(p)); break;
            case 22: is("from", x.from(p, t, s, what), model.from(p, t, s, what)); break;
            case 23: is("clocks", x.clocks(p, s % 5, what), model.clocks(p, s % 5, what)); break;
            case 24: is("floods", x.floods(p, t, n, s % 13, what), model.floods(p, t, n, s % 13, what)); break;
            case 25: is("day", x.day(s * 163 + n, what), model.day(s * 163 + n, what)); break;
            default: is("write", x.write(s + 60), model.write(s + 60)); break;
        }
    }
}
