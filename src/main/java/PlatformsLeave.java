/** Stations that leave trains: a ring of cells, told in a text, and what comes of it in sixty steps. */
public final class PlatformsLeave {
    public static final int BAD = -1, NO = -2, FULL = -3, NONE = -4;

    private static final int MOST_LETTERS = 200;
    private static final int FEWEST_CELLS = 4;
    private static final int MOST_CELLS = 24;
    private static final int CELLS_UNTOLD = 12;
    private static final int MOST_TRAINS = 5;
    private static final int MOST_PLATFORMS = 5;
    private static final int MOST_CHANGES = 8;
    private static final int MOST_KEPT = 2;
    private static final int MOST_CLUES = 6;
    private static final int LAST_START = 30;
    private static final int LAST_STEP = 60;
    private static final int LAST_FLOOD = 6;
    private static final int LAST_DAY = 9999;
    private static final int SLOW = 1, MILK = 2, POLITE = 3, EXPRESS = 4;
    private static final int A_START = 0, A_HOLD = 1, A_PASS = 2;
    private static final String OPENING =
            "n12;t3;t7;t10;a6;a11;p0,0,0,0;p2,5,1,0;p4,9,0,3;p3,2,1,1;w4;w5;";

    private final Text text;
    private final Line line;
    /** Texts are tried here, so that one with a fault changes nothing of what is laid. */
    private final Line draft;
    private final Changes changes;
    private final Kept kept;
    private final Clues clues;
    private final Run run;
    private final Rider rider;

    public PlatformsLeave() {
        text = new Text();
        line = new Line();
        draft = new Line();
        changes = new Changes();
        kept = new Kept();
        clues = new Clues();
        run = new Run(line);
        rider = new Rider(run);
        text.addAll(OPENING);
        text.readInto(line);
        text.length = 0;
    }

    // ---- lines

    public int write(int letter) {
        if (letter < 32 || letter > 126) return BAD;
        return text.add((char) letter) ? text.length : FULL;
    }

    public int wipe() {
        int was = text.length;
        text.length = 0;
        return was;
    }

    public int fault() {
        return text.readInto(draft);
    }

    public int lay() {
        if (text.readInto(draft) != NONE || draft.platforms == 0) return NO;
        text.readInto(line);
        changes.size = 0;
        kept.size = 0;
        clues.size = 0;
        return line.platforms;
    }

    public int platform(int p, int what) {
        if (!line.hasPlatform(p)) return BAD;
        switch (what) {
            case 0: return line.kinds[p];
            case 1: return line.places[p];
            case 2: return bit(line.down, p);
            case 3: return line.setting.starts[p];
            case 4: return bit(line.setting.held, p);
            default: return BAD;
        }
    }

    public int train(int t) {
        return line.hasTrain(t) ? line.stands[t] : BAD;
    }

    public int cell(int x, int what) {
        if (!line.hasCell(x) || !isEither(what)) return BAD;
        return bit(what == 0 ? line.setting.passing : line.rain, x);
    }

    // ---- changes

    public int start(int p, int s) {
        if (!line.hasPlatform(p) || s < 0 || s > LAST_START) return BAD;
        int was = line.setting.starts[p];
        line.setting.starts[p] = s;
        changes.add(A_START, p, was);
        return was;
    }

    public int hold(int p) {
        if (!line.hasPlatform(p)) return BAD;
        line.setting.held ^= 1 << p;
        changes.add(A_HOLD, p, 0);
        return bit(line.setting.held, p);
    }

    public int pass(int x) {
        if (!line.hasCell(x)) return BAD;
        if (line.toldIn(x) > 1) return NO;
        line.setting.passing ^= 1 << x;
        changes.add(A_PASS, x, 0);
        return bit(line.setting.passing, x);
    }

    public int undo() {
        return changes.takeBack(line.setting) ? changes.size : NO;
    }

    // ---- steps

    public int where(int p, int s, int what) {
        if (!line.hasPlatform(p) || s < 0 || s > LAST_STEP || what < 0 || what > 2) return BAD;
        run.begin();
        run.goTo(s);
        if (what == 0) return run.at[p];
        return what == 1 ? run.waited[p] : run.wet[p];
    }

    public int first(int p, int t) {
        if (!line.hasPlatform(p) || !line.hasTrain(t)) return BAD;
        run.begin();
        return run.firstAt(p, t);
    }

    public int hang() {
        run.begin();
        run.goTo(LAST_STEP);
        int bits = 0;
        for (int p = 0; p < line.platforms; p++) {
            if (run.hangs(p)) bits |= 1 << p;
        }
        return bits;
    }

    // ---- ways

    public int trip(int a, int b, int what) {
        if (!line.hasTrain(a) || !line.hasTrain(b) || a == b || !isEither(what)) return BAD;
        int step = rider.ride(a, b);
        if (step == NONE) return NONE;
        return what == 0 ? step : rider.onTrain[b];
    }

    public int best(int p, int t, int what) {
        if (!line.hasPlatform(p) || !line.hasTrain(t) || !isEither(what)) return BAD;
        int start = NONE;
        int step = NONE;
        for (int s = LAST_START; s >= 0; s--) {
            run.begin();
            run.setting.starts[p] = s;
            int reached = run.firstAt(p, t);
            if (reached != NONE && (step == NONE || reached < step)) {
                start = s;
                step = reached;
            }
        }
        return what == 0 ? start : step;
    }

    public int places(int k) {
        if (k < 0 || k > 2) return BAD;
        int besides = fewestPlaces();
        if (besides == NONE) return NONE;
        return k == 0 ? Integer.bitCount(besides) : kthOf(besides, k);
    }

    // ---- what came

    public int came(int t, int s, boolean did) {
        if (!line.hasTrain(t) || s < 1 || s > LAST_STEP) return BAD;
        return clues.add(t, s, did) ? clues.size : FULL;
    }

    public int forget() {
        int told = clues.size;
        clues.size = 0;
        return told;
    }

    public int fits(int p) {
        if (!line.hasPlatform(p)) return BAD;
        int bits = 0;
        for (int s = 0; s <= LAST_START; s++) {
            run.begin();
            run.setting.starts[p] = s;
            if (clues.fit(run)) bits |= 1 << s;
        }
        return bits;
    }

    public int from(int p, int t, int s, int what) {
        if (!line.hasPlatform(p) || !line.hasTrain(t) || !isEither(what)) return BAD;
        if (s < what || s > LAST_STEP) return BAD;
        run.begin();
        run.goTo(s - what);
        int ahead = run.cellsUpTo(p, t);
        if (what == 0) return ahead;
        run.goTo(s);
        return line.byRound(ahead - run.cellsUpTo(p, t)) + 100;
    }

    public int clocks(int p, int q, int what) {
        if (!line.hasPlatform(p) || !line.hasPlatform(q) || p == q || !isEither(what)) return BAD;
        int often = 0;
        int earliest = NONE;
        run.begin();
        for (int s = 0; s <= LAST_STEP; s++) {
            run.goTo(s);
            if (run.at[p] == run.at[q]) {
                if (often == 0) earliest = s;
                often++;
            }
        }
        return what == 0 ? often : earliest;
    }

    // ---- floods, days

    public int floods(int p, int t, int n, int x, int part) {
        if (!line.hasPlatform(p) || !line.hasTrain(t) || !isEither(part)) return BAD;
        if (n < 0 || n > LAST_FLOOD || x < 0 || x > 10) return BAD;
        int above = 0;
        int below = 1;
        for (int s = 0; s < n; s++) below *= 10;
        for (int heldIn = 0; heldIn < 1 << n; heldIn++) {
            if (run.comesInFlood(p, t, n, heldIn)) above += floodWeight(n, x, heldIn);
        }
        int common = commonDivisor(above, below);
        if (common < 1) return NONE;
        return (part == 0 ? above : below) / common;
    }

    public int day(int z, int what) {
        if (z < 0 || z > LAST_DAY || !isEither(what)) return BAD;
        run.begin();
        for (int p = 0; p < line.platforms; p++) run.setting.starts[p] = drawnStart(z, p);
        int twos = run.twosAt();
        return what == 0 ? run.waits : twos;
    }

    public int keep() {
        return kept.add(line.setting) ? kept.size : FULL;
    }

    public int back() {
        if (!kept.giveBack(line.setting)) return NO;
        changes.size = 0;
        return kept.size;
    }

    public int count(int what) {
        switch (what) {
            case 0: return line.cells;
            case 1: return line.trains;
            case 2: return line.platforms;
            case 3: return Integer.bitCount(line.setting.passing);
            case 4: return Integer.bitCount(line.setting.held);
            case 5: return clues.size;
            case 6: return changes.size;
            case 7: return kept.size;
            case 8: return text.length;
            default: return BAD;
        }
    }

    private static boolean isEither(int what) {
        return what == 0 || what == 1;
    }

    private static int bit(int bits, int place) {
        return bits >> place & 1;
    }

    /**
     * The fewest cells, as bits, that keep all from waiting if they are passing places besides. Up to
     * the first wait all go as they would with any more of them, so it must be its cell each time;
     * where that is one already, it stays the first wait to the end.
     */
    private int fewestPlaces() {
        int besides = 0;
        for (int many = 0; many <= 2; many++) {
            run.begin();
            run.setting.passing |= besides;
            run.goTo(LAST_STEP);
            if (run.waits == 0) return besides;
            besides |= 1 << run.firstFull;
        }
        return NONE;
    }

    private static int kthOf(int bits, int k) {
        int behind = k;
        for (int x = 0; x < MOST_CELLS; x++) {
            behind -= bit(bits, x);
            if (behind == 0) return x;
        }
        return NONE;
    }

    /** How many of the ten by ten .. ways in n steps are those in which it is held just in these. */
    private static int floodWeight(int n, int x, int heldIn) {
        int weight = 1;
        for (int s = 0; s < n; s++) weight *= bit(heldIn, s) == 1 ? x : 10 - x;
        return weight;
    }

    /** By Euclid; the bound on the rounds stands far above what numbers to a million need. */
    private static int commonDivisor(int a, int b) {
        int more = a;
        int less = b;
        for (int round = 0; round < 100 && less != 0; round++) {
            int rest = more % less;
            more = less;
            less = rest;
        }
        return more;
    }

    private static int drawnStart(int z, int p) {
        long x = 7919L * z + 331L * p + 1;
        long draw = x * x % 65521 / 8;
        return (int) (draw % (LAST_START + 1));
    }

    /** What a call of the face can change, and what is kept: starts, held ones, passing places. */
    private static final class Setting {
        final int[] starts = new int[MOST_PLATFORMS];
        int held;
        int passing;

        void copy(Setting other) {
            for (int p = 0; p < MOST_PLATFORMS; p++) starts[p] = other.starts[p];
            held = other.held;
            passing = other.passing;
        }
    }

    /** What a text tells, and the setting as it has been changed since. */
    private static final class Line {
        int cells;
        int trains;
        int platforms;
        int down;
        int rain;
        final int[] stands = new int[MOST_TRAINS];
        final int[] kinds = new int[MOST_PLATFORMS];
        final int[] places = new int[MOST_PLATFORMS];
        final Setting setting = new Setting();

        void clear() {
            cells = CELLS_UNTOLD;
            trains = 0;
            platforms = 0;
            down = 0;
            rain = 0;
            setting.held = 0;
            setting.passing = 0;
        }

        boolean hasCell(int x) {
            return x >= 0 && x < cells;
        }

        boolean hasTrain(int t) {
            return t >= 0 && t < trains;
        }

        boolean hasPlatform(int p) {
            return p >= 0 && p < platforms;
        }

        /** How many platforms are told to be in a cell. */
        int toldIn(int x) {
            int many = 0;
            for (int p = 0; p < platforms; p++) {
                if (places[p] == x) many++;
            }
            return many;
        }

        boolean standsIn(int x) {
            for (int t = 0; t < trains; t++) {
                if (stands[t] == x) return true;
            }
            return false;
        }

        boolean addRing(int n) {
            if (n < FEWEST_CELLS || n > MOST_CELLS) return false;
            cells = n;
            return true;
        }

        boolean addTrain(int x) {
            if (trains >= MOST_TRAINS || !hasCell(x)) return false;
            stands[trains] = x;
            trains++;
            return true;
        }

        boolean addPlatform(int kind, int x, int way, int s) {
            if (platforms >= MOST_PLATFORMS || kind > EXPRESS || !hasCell(x)) return false;
            if (way > 1 || s > LAST_START) return false;
            if (toldIn(x) > bit(setting.passing, x)) return false;
            kinds[platforms] = kind;
            places[platforms] = x;
            down |= way << platforms;
            setting.starts[platforms] = s;
            platforms++;
            return true;
        }

        boolean addPassing(int x) {
            if (!hasCell(x)) return false;
            setting.passing |= 1 << x;
            return true;
        }

        boolean addRain(int x) {
            if (!hasCell(x)) return false;
            rain |= 1 << x;
            return true;
        }

        int nextCell(int x, boolean goesDown) {
            if (goesDown) return x > 0 ? x - 1 : cells - 1;
            return x + 1 < cells ? x + 1 : 0;
        }

        /** The same difference by the shorter way round. */
        int byRound(int difference) {
            if (2 * difference > cells) return difference - cells;
            return 2 * difference <= -cells ? difference + cells : difference;
        }
    }

    /** The letters that were written, and the reading of them. */
    private static final class Text {
        final char[] letters = new char[MOST_LETTERS];
        final int[] numbers = new int[4];
        int length;
        private int next;
        private boolean ringOnly;

        boolean add(char letter) {
            if (length >= MOST_LETTERS) return false;
            letters[length] = letter;
            length++;
            return true;
        }

        void addAll(String all) {
            for (int i = 0; i < all.length(); i++) add(all.charAt(i));
        }

        /** Makes the line anew by the text: where the first item begins that is not so, NONE. */
        int readInto(Line into) {
            into.clear();
            next = 0;
            ringOnly = true;
            for (int item = 0; item < MOST_LETTERS && next < length; item++) {
                int begin = next;
                if (!readItem(into)) return begin;
            }
            return NONE;
        }

        private boolean readItem(Line into) {
            if (next >= length) return false;
            int letter = letters[next];
            next++;
            int last = letter == 'p' ? 3 : 0;
            for (int k = 0; k <= last; k++) {
                if (!readNumber(k, k < last ? ',' : ';')) return false;
            }
            if (letter == 'n') return ringOnly && into.addRing(numbers[0]);
            ringOnly = false;
            switch (letter) {
                case 't': return into.addTrain(numbers[0]);
                case 'p': return into.addPlatform(numbers[0], numbers[1], numbers[2], numbers[3]);
                case 'a': return into.addPassing(numbers[0]);
                case 'w': return into.addRain(numbers[0]);
                default: return false;
            }
        }

        private boolean readNumber(int k, char behind) {
            int value = 0;
            int figures = 0;
            while (figures < 2 && next < length && isFigure(letters[next])) {
                value = 10 * value + letters[next] - '0';
                next++;
                figures++;
            }
            if (figures == 0 || next >= length || letters[next] != behind) return false;
            next++;
            numbers[k] = value;
            return true;
        }

        private static boolean isFigure(char letter) {
            return letter >= '0' && letter <= '9';
        }
    }

    /** The latest changes, the oldest first, each with what undoes it. */
    private static final class Changes {
        final int[] sorts = new int[MOST_CHANGES];
        final int[] places = new int[MOST_CHANGES];
        final int[] before = new int[MOST_CHANGES];
        int size;

        void add(int sort, int place, int was) {
            if (size >= MOST_CHANGES) dropOldest();
            sorts[size] = sort;
            places[size] = place;
            before[size] = was;
            size++;
        }

        private void dropOldest() {
            for (int i = 1; i < MOST_CHANGES; i++) {
                sorts[i - 1] = sorts[i];
                places[i - 1] = places[i];
                before[i - 1] = before[i];
            }
            size = MOST_CHANGES - 1;
        }

        boolean takeBack(Setting setting) {
            if (size < 1) return false;
            size--;
            int place = places[size];
            switch (sorts[size]) {
                case A_START: setting.starts[place] = before[size]; break;
                case A_HOLD: setting.held ^= 1 << place; break;
                default: setting.passing ^= 1 << place; break;
            }
            return true;
        }
    }

    /** The settings that are kept, the latest last. */
    private static final class Kept {
        final Setting[] settings = {new Setting(), new Setting()};
        int size;

        boolean add(Setting setting) {
            if (size >= MOST_KEPT) return false;
            settings[size].copy(setting);
            size++;
            return true;
        }

        boolean giveBack(Setting setting) {
            if (size < 1) return false;
            size--;
            setting.copy(settings[size]);
            return true;
        }
    }

    /** What came: that at the end of a step some platform was at a train, or that none was. */
    private static final class Clues {
        final int[] trains = new int[MOST_CLUES];
        final int[] steps = new int[MOST_CLUES];
        final boolean[] did = new boolean[MOST_CLUES];
        int size;

        boolean add(int train, int step, boolean was) {
            if (size >= MOST_CLUES) return false;
            trains[size] = train;
            steps[size] = step;
            did[size] = was;
            size++;
            return true;
        }

        /** Goes on with a run that has begun for as long as all is as told. */
        boolean fit(Run run) {
            int last = lastStep();
            for (int s = 1; s <= last; s++) {
                run.goTo(s);
                if (!fitNow(run)) return false;
            }
            return true;
        }

        private boolean fitNow(Run run) {
            for (int i = 0; i < size; i++) {
                if (steps[i] == run.step && did[i] != run.someAt(trains[i])) return false;
            }
            return true;
        }

        private int lastStep() {
            int last = 0;
            for (int i = 0; i < size; i++) last = Math.max(last, steps[i]);
            return last;
        }
    }

    /** The platforms as they go on step by step, by a setting that may be changed for a trial. */
    private static final class Run {
        final Line line;
        final Setting setting = new Setting();
        final int[] at = new int[MOST_PLATFORMS];
        final int[] waited = new int[MOST_PLATFORMS];
        final int[] wet = new int[MOST_PLATFORMS];
        private final int[] lastWent = new int[MOST_PLATFORMS];
        private final int[] lastCalled = new int[MOST_PLATFORMS];
        private final int[] inCell = new int[MOST_CELLS];
        private int down;
        int step;
        int waits;
        /** The cell for which the first one waited, if any did. */
        int firstFull;

        Run(Line line) {
            this.line = line;
        }

        /** Step 0, as told and changed; a trial changes the run's own setting behind this. */
        void begin() {
            setting.copy(line.setting);
            down = line.down;
            step = 0;
            waits = 0;
            firstFull = 0;
            for (int x = 0; x < MOST_CELLS; x++) inCell[x] = 0;
            for (int p = 0; p < line.platforms; p++) {
                at[p] = line.places[p];
                waited[p] = 0;
                wet[p] = 0;
                lastWent[p] = NONE;
                lastCalled[p] = NONE;
                inCell[at[p]]++;
            }
        }

        void goTo(int s) {
            for (int i = step; i < s; i++) goOn();
        }

        private void goOn() {
            step++;
            for (int p = 0; p < line.platforms; p++) {
                if (wantsOn(p)) move(p);
            }
            for (int p = 0; p < line.platforms; p++) {
                if (bit(line.rain, at[p]) == 1 && inCell[at[p]] == 1) wet[p]++;
            }
        }

        /** A start of 0 is one of 1 without more words, for no step is ahead of 1. */
        private boolean wantsOn(int p) {
            if (bit(setting.held, p) == 1 || step < setting.starts[p]) return false;
            switch (line.kinds[p]) {
                case SLOW: return (step & 1) == 0;
                case MILK: return lastCalled[p] != step - 1;
                default: return true;
            }
        }

        private void move(int p) {
            boolean went = goesIn(p);
            if (went && line.kinds[p] == EXPRESS) went = goesIn(p);
            if (went) return;
            waited[p]++;
            waits++;
            if (line.kinds[p] == POLITE) down ^= 1 << p;
        }

        private boolean goesIn(int p) {
            int next = line.nextCell(at[p], bit(down, p) == 1);
            if (inCell[next] > bit(setting.passing, next)) {
                if (waits == 0) firstFull = next;
                return false;
            }
            inCell[at[p]]--;
            inCell[next]++;
            at[p] = next;
            lastWent[p] = step;
            if (line.standsIn(next)) lastCalled[p] = step;
            return true;
        }

        boolean isAt(int p, int t) {
            return at[p] == line.stands[t];
        }

        boolean someAt(int t) {
            return inCell[line.stands[t]] > 0;
        }

        int cellsUpTo(int p, int t) {
            int up = line.stands[t] - at[p];
            return up < 0 ? up + line.cells : up;
        }

        int firstAt(int p, int t) {
            for (int s = 0; s <= LAST_STEP; s++) {
                goTo(s);
                if (isAt(p, t)) return s;
            }
            return NONE;
        }

        /** Behind the last step. */
        boolean hangs(int p) {
            return bit(setting.held, p) == 0 && lastWent[p] <= LAST_STEP / 2;
        }

        /** Bit s less 1 of heldIn tells if the platform is held in step s. */
        boolean comesInFlood(int p, int t, int n, int heldIn) {
            begin();
            for (int s = 1; s <= n; s++) {
                setting.held &= ~(1 << p);
                setting.held |= bit(heldIn, s - 1) << p;
                goTo(s);
                if (isAt(p, t)) return true;
            }
            return false;
        }

        /** Goes to the last step: how many twos of a platform and a train have been at each other. */
        int twosAt() {
            int seen = 0;
            for (int s = 0; s <= LAST_STEP; s++) {
                goTo(s);
                for (int p = 0; p < line.platforms; p++) {
                    for (int t = 0; t < line.trains; t++) {
                        if (isAt(p, t)) seen |= 1 << (p * MOST_TRAINS + t);
                    }
                }
            }
            return Integer.bitCount(seen);
        }
    }

    /** One who changes between trains and platforms: how often at least onto platforms, to be on each. */
    private static final class Rider {
        private static final int NEVER = 1000000;

        final Run run;
        final int[] onTrain = new int[MOST_TRAINS];
        private final int[] onPlatform = new int[MOST_PLATFORMS];

        Rider(Run run) {
            this.run = run;
        }

        /** In which step one from train a can first be on train b; onTrain tells how often then. */
        int ride(int a, int b) {
            for (int t = 0; t < MOST_TRAINS; t++) onTrain[t] = t == a ? 0 : NEVER;
            for (int p = 0; p < MOST_PLATFORMS; p++) onPlatform[p] = NEVER;
            run.begin();
            for (int s = 0; s <= LAST_STEP; s++) {
                run.goTo(s);
                change();
                if (onTrain[b] < NEVER) return s;
            }
            return NONE;
        }

        /** Off, on, off is all that one step can need: a second way on never costs less than the first. */
        private void change() {
            getOff();
            getOn();
            getOff();
        }

        private void getOn() {
            for (int p = 0; p < run.line.platforms; p++) {
                for (int t = 0; t < run.line.trains; t++) {
                    if (run.isAt(p, t)) onPlatform[p] = Math.min(onPlatform[p], onTrain[t] + 1);
                }
            }
        }

        private void getOff() {
            for (int p = 0; p < run.line.platforms; p++) {
                for (int t = 0; t < run.line.trains; t++) {
                    if (run.isAt(p, t)) onTrain[t] = Math.min(onTrain[t], onPlatform[p]);
                }
            }
        }
    }
}
