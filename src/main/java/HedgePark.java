import java.util.Arrays;
import java.util.NoSuchElementException;

/** A park of hedges that grow by night; ../shared/DOC.md says what each call promises. */
public final class HedgePark {
    public static final int NONE = -1;

    private static final int MOST_BYTES = 900;
    private static final int MOST_CELLS = 36;
    private static final int MOST_WALKERS = 5;
    private static final int MOST_ERRANDS = 4;
    private static final int MOST_UNDONE = 10;
    private static final int MOST_NIGHTS = 99;
    private static final int MOST_TIMES = 30;
    private static final int MOST_QUARTERS = 30;
    private static final int SIDES = 4;
    private static final int PATH = 0;
    private static final int WALL = 4;
    private static final int LAST_KIND = 3;
    private static final int THICKEST = 60;
    private static final int TRAYS = 4;
    private static final int PLACES = 40;
    private static final int LAST_SORT = 3;
    private static final int IMAGES = 3;

    /** More than any walk through the park can cost, and far from an int's end. */
    private static final int FAR = 1000000000;

    private final int[] tape = new int[MOST_BYTES];
    private int taped;
    private int faultKind;
    private int faultPlace = NONE;

    private final Story story = new Story();
    private final Story[] images = new Story[IMAGES];
    /** What nights to come, and deeds that are only judged, are tried on. */
    private final Scene trial = new Scene();

    private final long[] trayRows = new long[TRAYS * PLACES];
    private final int[] traySort = new int[TRAYS];
    private final int[] trayPlaces = new int[TRAYS];

    private final Reader reader = new Reader();
    private final Growth growth = new Growth();
    private final Ways ways = new Ways();
    private final Cut cut = new Cut();
    private final Strolls strolls = new Strolls();
    private final Rounds rounds = new Rounds();
    private final Deeds deeds = new Deeds();

    public HedgePark() {
        for (int i = 0; i < IMAGES; i++) {
            images[i] = new Story();
        }
        Arrays.fill(traySort, NONE);
    }

    // ---- the park

    public int feed(int a, int b, int c, int d, int e) {
        if (taped + 20 > MOST_BYTES) {
            return NONE;
        }
        tapeInt(a);
        tapeInt(b);
        tapeInt(c);
        tapeInt(d);
        tapeInt(e);
        return taped;
    }

    private void tapeInt(int four) {
        for (int shift = 24; shift >= 0 && taped < MOST_BYTES; shift -= 8) {
            tape[taped] = four >>> shift & 255;
            taped++;
        }
    }

    public int park(int n) throws IllegalArgumentException {
        demand(n >= 0 && n <= taped);
        taped = 0;
        reader.read(tape, n);
        faultKind = reader.fault;
        faultPlace = reader.faultPlace;
        if (faultKind != 0) {
            return -10 - faultKind;
        }
        story.becomes(reader.fresh);
        return story.plan.lines;
    }

    public int fault(int what) {
        if (what == 0) {
            return faultKind;
        }
        return what == 1 ? faultPlace : NONE;
    }

    public int cell(int k, int what) throws NoSuchElementException, IllegalArgumentException {
        needCell(k);
        demand(what >= 0 && what <= 4);
        Plan plan = story.plan;
        Scene now = story.now;
        switch (what) {
            case 0: return now.kind[k];
            case 1: return now.thick[k];
            case 2: return Ways.costOf(plan, now, k, false);
            case 3: return growth.wouldGrow(plan, now, k, now.hedgeBits()) ? 1 : 0;
            default: return now.walkersAt(plan.walkers, k);
        }
    }

    public int walker(int w, int what) throws NoSuchElementException, IllegalArgumentException {
        needWalker(w);
        Plan plan = story.plan;
        switch (what) {
            case 0: return story.now.at[w];
            case 1: return story.now.age[w];
            case 2: return plan.isFree(w) ? 1 : 0;
            case 3: return plan.errands[w];
            default: break;
        }
        boolean place = what >= 10 && what < 10 + MOST_ERRANDS;
        demand(place || what >= 20 && what < 20 + MOST_ERRANDS);
        int i = what % 10;
        if (i >= plan.errands[w]) {
            return NONE;
        }
        int e = MOST_ERRANDS * w + i;
        return place ? plan.errandCell[e] : plan.errandTime[e];
    }

    public long hedges() {
        return story.now.hedgeBits();
    }

    public int thickness() {
        int sum = 0;
        for (int k = 0; k < MOST_CELLS; k++) {
            sum += story.now.thick[k];
        }
        return sum;
    }

    // ---- deeds

    public int walk(int w, int k) throws NoSuchElementException {
        needWalkerAndCell(w, k);
        if (deeds.whyNot(story.plan, story.now, Deeds.toldWalk(w, k)) != 0) {
            return NONE;
        }
        story.remember();
        return deeds.goTo(story.plan, story.now, w, k);
    }

    public int clip(int k, int n) throws NoSuchElementException, IllegalStateException, IllegalArgumentException {
        needCell(k);
        demandState(story.now.isHedge(k));
        demand(n >= 1 && n <= THICKEST);
        story.remember();
        story.now.shear(k, n);
        return story.now.thick[k];
    }

    public int plant(int k, int kind) throws NoSuchElementException, IllegalArgumentException, IllegalStateException {
        needCell(k);
        demand(kind >= 1 && kind <= LAST_KIND);
        demandState(story.now.isPlot(story.plan.walkers, k));
        story.remember();
        story.now.put(k, kind, 1);
        return Long.bitCount(story.now.hedgeBits());
    }

    public int nights(int n) throws IllegalArgumentException {
        demand(n >= 1 && n <= MOST_NIGHTS);
        story.remember();
        return growth.pass(story.plan, story.now, n);
    }

    public int undo(int n) throws IllegalArgumentException {
        demand(n >= 1 && n <= story.undoable);
        story.goBack(n);
        return story.undoable;
    }

    public int judge(int tray, int what) throws NoSuchElementException, IllegalStateException, IllegalArgumentException {
        needFilledTray(tray);
        demand(what >= 0 && what <= 3);
        trial.becomes(story.now);
        int done = 0;
        int why = 0;
        while (done < trayPlaces[tray]) {
            long told = trayRows[PLACES * tray + done];
            why = deeds.whyNot(story.plan, trial, told);
            if (why != 0) {
                break;
            }
            deeds.act(story.plan, trial, (int) told);
            done++;
        }
        switch (what) {
            case 0: return why == 0 ? NONE : done;
            case 1: return why;
            case 2: return trial.time;
            default: return trial.clippings;
        }
    }

    public int perform(int tray) throws NoSuchElementException, IllegalStateException {
        needFilledTray(tray);
        int done = 0;
        while (done < trayPlaces[tray] && performOne(trayRows[PLACES * tray + done])) {
            done++;
        }
        return done;
    }

    private boolean performOne(long told) {
        if (deeds.whyNot(story.plan, story.now, told) != 0) {
            return false;
        }
        story.remember();
        deeds.act(story.plan, story.now, (int) told);
        return true;
    }

    public int decade(int seed, int times) throws IllegalArgumentException, IllegalStateException {
        demand(times >= 1 && times <= MOST_TIMES);
        demandState(story.plan.cells() > 0);
        int done = 0;
        deeds.seed = seed;
        for (int i = 0; i < times; i++) {
            if (performOne(deeds.drawDeed(story.plan))) {
                done++;
            }
        }
        return done;
    }

    // ---- ways

    public int soonest(int w, int k) throws NoSuchElementException {
        needWalkerAndCell(w, k);
        ways.spreadOf(story.plan, story.now, w);
        return orNone(ways.far[k]);
    }

    public int way(int w, int k, int i) throws NoSuchElementException {
        needWalkerAndCell(w, k);
        ways.price(story.plan, story.now, story.plan.isFree(w));
        int many = ways.trace(story.plan, story.now.at[w], k);
        if (i == NONE || many == NONE) {
            return many;
        }
        return i >= 0 && i <= many ? ways.row[i] : NONE;
    }

    public long ways(int w, int k) throws NoSuchElementException {
        needWalkerAndCell(w, k);
        ways.spreadOf(story.plan, story.now, w);
        return ways.manyTo(story.plan, k);
    }

    public int within(int w, int k, int n) throws NoSuchElementException, IllegalArgumentException {
        needWalkerAndCell(w, k);
        demand(n >= 0 && n <= 99);
        ways.price(story.plan, story.now, story.plan.isFree(w));
        ways.stand(story.now.at[w]);
        boolean more = true;
        for (int s = 0; s < n && more; s++) {
            more = ways.stepOn(story.plan);
        }
        return orNone(ways.far[k]);
    }

    public int steps(int w, int k, int c) throws NoSuchElementException, IllegalArgumentException {
        needWalkerAndCell(w, k);
        demand(c >= 0);
        ways.price(story.plan, story.now, story.plan.isFree(w));
        ways.stand(story.now.at[w]);
        for (int s = 0; s < MOST_CELLS; s++) {
            if (ways.isIn(k, c)) {
                return s;
            }
            if (!ways.stepOn(story.plan)) {
                return NONE;
            }
        }
        return NONE;
    }

    public int cleared(int w, int k, int m) throws NoSuchElementException, IllegalArgumentException {
        needWalkerAndCell(w, k);
        demand(m >= 0 && m <= MOST_CELLS);
        ways.spreadOf(story.plan, story.now, w);
        boolean more = true;
        for (int i = 0; i < m && more; i++) {
            more = ways.clearOneMore(story.plan, story.now);
        }
        return orNone(ways.far[k]);
    }

    public int clipFor(int w, int k, int c, int what) throws NoSuchElementException, IllegalArgumentException {
        needWalkerAndCell(w, k);
        demand(c >= 0 && what >= 0 && what <= 1);
        ways.spreadOf(story.plan, story.now, w);
        for (int m = 0; m <= MOST_CELLS; m++) {
            if (ways.isIn(k, c)) {
                return what == 0 ? m : ways.far[k];
            }
            if (!ways.clearOneMore(story.plan, story.now)) {
                return NONE;
            }
        }
        return NONE;
    }

    public long reach(int w, int c) throws NoSuchElementException, IllegalArgumentException {
        needWalker(w);
        demand(c >= 0);
        ways.spreadOf(story.plan, story.now, w);
        long bits = 0;
        for (int k = 0; k < story.plan.cells(); k++) {
            if (ways.isIn(k, c)) {
                bits |= 1L << k;
            }
        }
        return bits;
    }

    public int farthest(int w) throws NoSuchElementException {
        needWalker(w);
        ways.spreadOf(story.plan, story.now, w);
        int last = story.now.at[w];
        int most = NONE;
        for (int k = 0; k < story.plan.cells(); k++) {
            if (ways.far[k] < FAR && ways.far[k] > most) {
                most = ways.far[k];
                last = k;
            }
        }
        return last;
    }

    // ---- errands

    public int round(int w, int what) throws NoSuchElementException, IllegalArgumentException {
        needWalker(w);
        demand(what >= 0 && what <= 2);
        rounds.prepare(story.plan, story.now, w);
        rounds.inOrderTold();
        switch (what) {
            case 0: return rounds.cost;
            case 1: return rounds.firstLate;
            default: return rounds.late;
        }
    }

    public int bestOrder(int w, int what) throws NoSuchElementException, IllegalArgumentException {
        needWalker(w);
        demand(what == 0 || what == 1 || what >= 10 && what < 10 + MOST_ERRANDS);
        rounds.prepare(story.plan, story.now, w);
        rounds.inBestOrder();
        if (what == 0) {
            return rounds.bestLate;
        }
        if (what == 1) {
            return rounds.bestCost;
        }
        int i = what - 10;
        return i < story.plan.errands[w] ? rounds.best[i] : NONE;
    }

    public int meet(int w, int v, boolean fair, int what) throws NoSuchElementException, IllegalArgumentException {
        needWalker(w);
        needWalker(v);
        demand(w != v && what >= 0 && what <= 1);
        ways.spreadOf(story.plan, story.now, w);
        ways.keep();
        ways.spreadOf(story.plan, story.now, v);
        int place = NONE;
        int least = FAR;
        for (int k = 0; k < story.plan.cells(); k++) {
            int a = ways.kept[k];
            int b = ways.far[k];
            if (a < FAR && b < FAR) {
                int both = fair ? Math.max(a, b) : a + b;
                if (both < least) {
                    least = both;
                    place = k;
                }
            }
        }
        return what == 0 ? place : orNone(least);
    }

    public int first(int k) throws NoSuchElementException {
        needCell(k);
        int soonest = FAR;
        int who = NONE;
        for (int w = 0; w < story.plan.walkers; w++) {
            ways.spreadOf(story.plan, story.now, w);
            if (ways.far[k] < soonest) {
                soonest = ways.far[k];
                who = w;
            }
        }
        return who;
    }

    public long own(int w) throws NoSuchElementException {
        needWalker(w);
        Arrays.fill(ways.kept, FAR);
        for (int v = 0; v < story.plan.walkers; v++) {
            if (v != w) {
                ways.spreadOf(story.plan, story.now, v);
                ways.keepLess();
            }
        }
        ways.spreadOf(story.plan, story.now, w);
        long bits = 0;
        for (int k = 0; k < story.plan.cells(); k++) {
            if (ways.far[k] < ways.kept[k]) {
                bits |= 1L << k;
            }
        }
        return bits;
    }

    // ---- walls, what all need

    public int shutOff(int w, int k) throws NoSuchElementException {
        needWalkerAndCell(w, k);
        Plan plan = story.plan;
        int from = story.now.at[w];
        long open = story.now.openBits(plan.cells());
        // A wall beside the walker has no way to it already, so this is asked first.
        if (!has(plan.flood(from, open), k)) {
            return 0;
        }
        if (k == from || has(plan.besideBits(1L << from), k)) {
            return NONE;
        }
        return cut.least(plan, open, from, k);
    }

    public long needed(int w, int k) throws NoSuchElementException {
        needWalkerAndCell(w, k);
        Plan plan = story.plan;
        int from = story.now.at[w];
        long open = story.now.openBits(plan.cells());
        long all = plan.flood(from, open);
        if (!has(all, k)) {
            return 0;
        }
        long bits = 0;
        for (int c = 0; c < plan.cells(); c++) {
            boolean inner = has(all, c) && c != from && c != k;
            if (inner && !has(plan.flood(from, open & ~(1L << c)), k)) {
                bits |= 1L << c;
            }
        }
        return bits;
    }

    public int dearest(int w, int k) throws NoSuchElementException {
        needWalkerAndCell(w, k);
        Plan plan = story.plan;
        int from = story.now.at[w];
        ways.price(plan, story.now, plan.isFree(w));
        int many = ways.trace(plan, from, k);
        if (many == NONE) {
            return NONE;
        }
        // A cell off the way leaves it as it is, so only its own cells are tried.
        long tried = ways.rowBits(many) & ~(1L << from) & ~(1L << k);
        ways.spread(plan, from);
        int most = ways.far[k];
        int which = NONE;
        for (int c = 0; c < plan.cells(); c++) {
            if (has(tried, c)) {
                int cost = ways.spreadWithout(plan, from, k, c);
                if (cost > most) {
                    most = cost;
                    which = c;
                }
            }
        }
        return which;
    }

    // ---- nights

    public int soonestIn(int w, int k, int n) throws NoSuchElementException, IllegalArgumentException {
        needWalkerAndCell(w, k);
        demand(n >= 0 && n <= MOST_NIGHTS);
        trial.becomes(story.now);
        growth.pass(story.plan, trial, n);
        ways.spreadOf(story.plan, trial, w);
        return orNone(ways.far[k]);
    }

    public int bestNight(int w, int k, int n) throws NoSuchElementException, IllegalArgumentException {
        needWalkerAndCell(w, k);
        demand(n >= 0 && n <= MOST_NIGHTS);
        trial.becomes(story.now);
        int least = FAR;
        int when = NONE;
        for (int i = 0; i <= n; i++) {
            ways.spreadOf(story.plan, trial, w);
            if (ways.far[k] < least) {
                least = ways.far[k];
                when = i;
            }
            growth.passOne(story.plan, trial);
        }
        return when;
    }

    public int grownTo(int w, int k, int c) throws NoSuchElementException, IllegalArgumentException {
        needWalkerAndCell(w, k);
        demand(c >= 0);
        trial.becomes(story.now);
        for (int i = 0; i <= MOST_NIGHTS; i++) {
            ways.spreadOf(story.plan, trial, w);
            if (ways.far[k] >= FAR) {
                return NONE;
            }
            if (ways.far[k] >= c) {
                return i;
            }
            growth.passOne(story.plan, trial);
        }
        return NONE;
    }

    // ---- walks that took so long

    public long walks(int w, int k, int t) throws NoSuchElementException, IllegalArgumentException {
        needWalkerAndCell(w, k);
        stroll(w, k, t);
        return strolls.countWithout(story.plan, NONE);
    }

    public long been(int w, int k, int t) throws NoSuchElementException, IllegalArgumentException {
        needWalkerAndCell(w, k);
        stroll(w, k, t);
        return strolls.passed();
    }

    public long through(int w, int k, int t, int cell) throws NoSuchElementException, IllegalArgumentException {
        needWalkerAndCell(w, k);
        needCell(cell);
        stroll(w, k, t);
        return strolls.countBy(story.plan, cell, strolls.countWithout(story.plan, NONE));
    }

    public int tells(int w, int k, int t) throws NoSuchElementException, IllegalArgumentException {
        needWalkerAndCell(w, k);
        stroll(w, k, t);
        long all = strolls.countWithout(story.plan, NONE);
        if (all == 0) {
            return NONE;
        }
        long most = NONE;
        int which = NONE;
        for (int c = 0; c < story.plan.cells(); c++) {
            long by = strolls.countBy(story.plan, c, all);
            long lesser = Math.min(by, all - by);
            if (lesser > most) {
                most = lesser;
                which = c;
            }
        }
        return which;
    }

    public long maybe(int w, int t) throws NoSuchElementException, IllegalArgumentException {
        needWalker(w);
        stroll(w, story.now.at[w], t);
        return strolls.there[t];
    }

    private void stroll(int w, int k, int t) {
        demand(t >= 0 && t <= MOST_QUARTERS);
        strolls.prepare(story.plan, story.now, w, k, t);
    }

    // ---- trays, images

    public void tray(int tray, int sort, int many) throws NoSuchElementException, IllegalArgumentException {
        needTray(tray);
        demand(sort >= 0 && sort <= LAST_SORT && many >= 0 && many <= PLACES);
        traySort[tray] = sort;
        trayPlaces[tray] = many;
        for (int i = 0; i < PLACES; i++) {
            trayRows[PLACES * tray + i] = 0;
        }
    }

    public long write(int tray, int place, long v) throws NoSuchElementException, IllegalStateException, IndexOutOfBoundsException {
        needFilledTray(tray);
        if (place < 0 || place >= trayPlaces[tray]) {
            throw new IndexOutOfBoundsException();
        }
        long cutToSort = cutTo(traySort[tray], v);
        trayRows[PLACES * tray + place] = cutToSort;
        return cutToSort;
    }

    private static long cutTo(int sort, long v) {
        switch (sort) {
            case 0: return (byte) v;
            case 1: return (short) v;
            case 2: return (int) v;
            default: return v;
        }
    }

    public int copy(int tray) throws NoSuchElementException, IllegalStateException {
        needFilledTray(tray);
        int many = Math.min(trayPlaces[tray], story.plan.cells());
        for (int k = 0; k < many; k++) {
            trayRows[PLACES * tray + k] = story.now.thick[k];
        }
        return many;
    }

    public void image(int i) throws NoSuchElementException {
        needImage(i);
        images[i].becomes(story);
        images[i].made = true;
    }

    public void restore(int i) throws NoSuchElementException, IllegalStateException {
        needImage(i);
        demandState(images[i].made);
        story.becomes(images[i]);
    }

    public int count(int what) {
        Plan plan = story.plan;
        Scene now = story.now;
        switch (what) {
            case 0: return plan.lines;
            case 1: return plan.wide;
            case 2: return plan.high;
            case 3: return plan.walkers;
            case 4: return now.night;
            case 5: return now.time;
            case 6: return now.clippings;
            case 7: return Long.bitCount(now.hedgeBits());
            case 8: return story.undoable;
            case 9: return taped;
            case 10: return plan.isWinter(now.night) ? 1 : 0;
            case 11: return plan.cells() - Long.bitCount(now.openBits(plan.cells()));
            default: return NONE;
        }
    }

    // ---- what calls ask for ahead of all

    private void needCell(int k) {
        if (k < 0 || k >= story.plan.cells()) {
            throw new NoSuchElementException();
        }
    }

    private void needWalker(int w) {
        if (w < 0 || w >= story.plan.walkers) {
            throw new NoSuchElementException();
        }
    }

    private void needWalkerAndCell(int w, int k) {
        needWalker(w);
        needCell(k);
    }

    private static void needTray(int tray) {
        if (tray < 0 || tray >= TRAYS) {
            throw new NoSuchElementException();
        }
    }

    private void needFilledTray(int tray) {
        needTray(tray);
        demandState(traySort[tray] != NONE);
    }

    private static void needImage(int i) {
        if (i < 0 || i >= IMAGES) {
            throw new NoSuchElementException();
        }
    }

    private static void demand(boolean fits) {
        if (!fits) {
            throw new IllegalArgumentException();
        }
    }

    private static void demandState(boolean fits) {
        if (!fits) {
            throw new IllegalStateException();
        }
    }

    private static int orNone(int cost) {
        return cost < FAR ? cost : NONE;
    }

    private static boolean has(long bits, int k) {
        return (bits >>> k & 1L) != 0;
    }

    /** The law by which hedges grow: a row of codes, each behind the parts that it joins. */
    private static final class Law {
        /** Codes below this are numbers that stand for themselves. */
        static final int FIRST_FACT = 1000;
        static final int X = 1000;
        static final int Y = 1001;
        static final int KIND = 1002;
        static final int THICK = 1003;
        static final int NEAR = 1004;
        static final int NIGHT = 1005;
        static final int FACTS = 6;
        static final int NOT = 1006;
        static final int PLUS = 1007;
        static final int MINUS = 1008;
        static final int TIMES = 1009;
        static final int EQUAL = 1010;
        static final int LESS = 1011;
        static final int MORE = 1012;
        static final int AND = 1013;
        static final int OR = 1014;
        private static final long BOUND = 1000000;

        /** A text has fewer tokens than bytes, and a token makes one code at most. */
        final int[] codes = new int[MOST_BYTES];
        int many;

        void put(int code) {
            if (many < codes.length) {
                codes[many] = code;
                many++;
            }
        }

        void becomes(Law other) {
            System.arraycopy(other.codes, 0, codes, 0, other.many);
            many = other.many;
        }

        static int join(int code, int a, int b) {
            long v;
            switch (code) {
                case PLUS:
                    v = (long) a + b;
                    break;
                case MINUS:
                    v = (long) a - b;
                    break;
                case TIMES:
                    v = (long) a * b;
                    break;
                case EQUAL: return a == b ? 1 : 0;
                case LESS: return a < b ? 1 : 0;
                case MORE: return a > b ? 1 : 0;
                case AND: return a & b;
                default: return a | b;
            }
            return (int) Math.max(-BOUND, Math.min(BOUND, v));
        }
    }

    /** What the text tells and no deed changes. */
    private static final class Plan {
        int lines;
        int wide;
        int high;
        /** Each so many-th night is a winter's; 0: none is. */
        int winter;
        int walkers;
        private int freeBits;
        final int[] errands = new int[MOST_WALKERS];
        final int[] errandCell = new int[MOST_WALKERS * MOST_ERRANDS];
        final int[] errandTime = new int[MOST_WALKERS * MOST_ERRANDS];
        final Law law = new Law();
        /** The cells beside each, the least first, so that the first that fits is the least. */
        final int[] beside = new int[MOST_CELLS * SIDES];
        private long all;
        private long leftColumn;
        private long rightColumn;

        void clear() {
            lines = 0;
            wide = 0;
            high = 0;
            winter = 0;
            walkers = 0;
            freeBits = 0;
            law.many = 0;
            all = 0;
            Arrays.fill(errands, 0);
        }

        int cells() {
            return wide * high;
        }

        boolean isFree(int w) {
            return (freeBits >>> w & 1) != 0;
        }

        boolean isWinter(int night) {
            return winter > 0 && night > 0 && night % winter == 0;
        }

        int xOf(int k) {
            return wide > 0 ? k % wide : 0;
        }

        int yOf(int k) {
            return wide > 0 ? k / wide : 0;
        }

        void layOut(int wideNow, int highNow) {
            wide = wideNow;
            high = highNow;
            all = (1L << cells()) - 1;
            leftColumn = 0;
            for (int y = 0; y < high; y++) {
                leftColumn |= 1L << y * wide;
            }
            rightColumn = leftColumn << wide - 1;
            for (int k = 0; k < cells(); k++) {
                int x = xOf(k);
                int y = yOf(k);
                beside[SIDES * k] = y > 0 ? k - wide : NONE;
                beside[SIDES * k + 1] = x > 0 ? k - 1 : NONE;
                beside[SIDES * k + 2] = x < wide - 1 ? k + 1 : NONE;
                beside[SIDES * k + 3] = y < high - 1 ? k + wide : NONE;
            }
        }

        long besideBits(long bits) {
            long right = (bits & ~rightColumn) << 1;
            long left = (bits & ~leftColumn) >>> 1;
            return (right | left | bits << wide | bits >>> wide) & all;
        }

        /** All open cells that hang together with one. */
        long flood(int from, long open) {
            long bits = 1L << from & open;
            for (int i = 0; i < MOST_CELLS; i++) {
                long more = (bits | besideBits(bits)) & open;
                if (more == bits) {
                    return bits;
                }
                bits = more;
            }
            return bits;
        }

        void addWalker(boolean free) {
            if (free) {
                freeBits |= 1 << walkers;
            }
            walkers++;
        }

        void addErrand(int w, int k, int time) {
            if (errands[w] < MOST_ERRANDS) {
                int e = MOST_ERRANDS * w + errands[w];
                errandCell[e] = k;
                errandTime[e] = time;
                errands[w]++;
            }
        }

        void becomes(Plan other) {
            lines = other.lines;
            wide = other.wide;
            high = other.high;
            winter = other.winter;
            walkers = other.walkers;
            freeBits = other.freeBits;
            System.arraycopy(other.errands, 0, errands, 0, errands.length);
            System.arraycopy(other.errandCell, 0, errandCell, 0, errandCell.length);
            System.arraycopy(other.errandTime, 0, errandTime, 0, errandTime.length);
            law.becomes(other.law);
            System.arraycopy(other.beside, 0, beside, 0, beside.length);
            all = other.all;
            leftColumn = other.leftColumn;
            rightColumn = other.rightColumn;
        }
    }

    /** What deeds change. */
    private static final class Scene {
        final int[] kind = new int[MOST_CELLS];
        final int[] thick = new int[MOST_CELLS];
        final int[] at = new int[MOST_WALKERS];
        final int[] age = new int[MOST_WALKERS];
        int time;
        int night;
        int clippings;

        void clear() {
            Arrays.fill(kind, PATH);
            Arrays.fill(thick, 0);
            time = 0;
            night = 0;
            clippings = 0;
        }

        boolean isHedge(int k) {
            return kind[k] != PATH && kind[k] != WALL;
        }

        long hedgeBits() {
            long bits = 0;
            for (int k = 0; k < MOST_CELLS; k++) {
                if (isHedge(k)) {
                    bits |= 1L << k;
                }
            }
            return bits;
        }

        long openBits(int cells) {
            long bits = 0;
            for (int k = 0; k < cells; k++) {
                if (kind[k] != WALL) {
                    bits |= 1L << k;
                }
            }
            return bits;
        }

        int walkersAt(int walkers, int k) {
            int bits = 0;
            for (int w = 0; w < walkers; w++) {
                if (at[w] == k) {
                    bits |= 1 << w;
                }
            }
            return bits;
        }

        boolean isPlot(int walkers, int k) {
            return kind[k] == PATH && walkersAt(walkers, k) == 0;
        }

        void put(int k, int kindNow, int thickNow) {
            kind[k] = kindNow;
            thick[k] = thickNow;
        }

        void shear(int k, int n) {
            int less = Math.min(n, thick[k]);
            clippings += less;
            thick[k] -= less;
            if (thick[k] == 0) {
                kind[k] = PATH;
            }
        }

        void becomes(Scene other) {
            System.arraycopy(other.kind, 0, kind, 0, kind.length);
            System.arraycopy(other.thick, 0, thick, 0, thick.length);
            System.arraycopy(other.at, 0, at, 0, at.length);
            System.arraycopy(other.age, 0, age, 0, age.length);
            time = other.time;
            night = other.night;
            clippings = other.clippings;
        }
    }

    /** A park as it is, with the scenes ahead of its latest deeds: all that an image keeps. */
    private static final class Story {
        final Plan plan = new Plan();
        final Scene now = new Scene();
        /** A ring: the eldest scene is where the next one comes. */
        private final Scene[] past = new Scene[MOST_UNDONE];
        private int next;
        int undoable;
        /** Of an image alone: whether it was made. */
        boolean made;

        Story() {
            for (int i = 0; i < MOST_UNDONE; i++) {
                past[i] = new Scene();
            }
        }

        void clear() {
            plan.clear();
            now.clear();
            next = 0;
            undoable = 0;
        }

        void remember() {
            past[next].becomes(now);
            next = (next + 1) % MOST_UNDONE;
            undoable = Math.min(undoable + 1, MOST_UNDONE);
        }

        void goBack(int n) {
            next = Math.floorMod(next - n, MOST_UNDONE);
            undoable -= n;
            now.becomes(past[next]);
        }

        void becomes(Story other) {
            plan.becomes(other.plan);
            now.becomes(other.now);
            for (int i = 0; i < MOST_UNDONE; i++) {
                past[i].becomes(other.past[i]);
            }
            next = other.next;
            undoable = other.undoable;
        }
    }

    /** Reads a park's text; once it has a fault, all that would go on reading leaves it at that. */
    private static final class Reader {
        private static final int NO_TOKEN = 1;
        private static final int OUT_OF_PLACE = 2;
        private static final int OUT_OF_BOUNDS = 3;
        private static final int TOO_MANY = 4;

        private static final int END = 0;
        private static final int WORD = 1;
        private static final int NUMBER = 2;
        private static final int SIGN = 3;
        private static final int UNKNOWN = 4;

        private static final int DEEPEST = 6;
        private static final int MOST_DIGITS = 3;
        private static final String SIGNS = ";+-*()[]=<>";

        int fault;
        int faultPlace;
        /** What is read comes here first, since a park with a fault changes nothing. */
        final Story fresh = new Story();
        private final Plan plan = fresh.plan;
        private final Scene scene = fresh.now;
        private int[] text = new int[0];
        private int length;
        /** The token at hand goes from its place to what comes next. */
        private int place;
        private int next;
        private int sort;
        /** A number's value, or a sign's character. */
        private int value;

        void read(int[] tape, int many) {
            fault = 0;
            faultPlace = NONE;
            text = tape;
            length = Math.min(many, text.length);
            next = 0;
            fresh.clear();
            advance();
            readPark();
            for (int i = 0; i < MOST_BYTES && fault == 0 && sort != END; i++) {
                readLine();
            }
        }

        private void refuse(int kind) {
            if (fault == 0) {
                fault = kind;
                faultPlace = place;
            }
        }

        // -- tokens

        private void advance() {
            place = next;
            while (place < length && (text[place] == 10 || text[place] == 32)) {
                place++;
            }
            next = place + 1;
            value = place < length ? text[place] : NONE;
            if (value == NONE) {
                sort = END;
                next = place;
            } else if (value >= 'a' && value <= 'z') {
                sort = WORD;
                next = endOfRun('a', 'z');
            } else if (value >= '0' && value <= '9') {
                next = endOfRun('0', '9');
                sort = next - place <= MOST_DIGITS ? NUMBER : UNKNOWN;
                value = 0;
                for (int i = place; i < next && sort == NUMBER; i++) {
                    value = 10 * value + text[i] - '0';
                }
            } else {
                sort = SIGNS.indexOf((char) value) >= 0 ? SIGN : UNKNOWN;
            }
            if (sort == UNKNOWN) {
                refuse(NO_TOKEN);
            }
        }

        private int endOfRun(char least, char most) {
            int end = place;
            while (end < length && text[end] >= least && text[end] <= most) {
                end++;
            }
            return end;
        }

        private boolean isWord(String word) {
            if (fault != 0 || sort != WORD || next - place != word.length()) {
                return false;
            }
            for (int i = 0; i < word.length(); i++) {
                if (text[place + i] != word.charAt(i)) {
                    return false;
                }
            }
            return true;
        }

        private boolean isSign(char sign) {
            return fault == 0 && sort == SIGN && value == sign;
        }

        private boolean takeIfWord(String word) {
            boolean fits = isWord(word);
            if (fits) {
                advance();
            }
            return fits;
        }

        private boolean takeIfSign(char sign) {
            boolean fits = isSign(sign);
            if (fits) {
                advance();
            }
            return fits;
        }

        private void needSign(char sign) {
            if (!takeIfSign(sign)) {
                refuse(OUT_OF_PLACE);
            }
        }

        /** The number at hand, which stays there, so that more can be found wrong with it. */
        private int lookNumber(int least, int most) {
            if (sort != NUMBER) {
                refuse(OUT_OF_PLACE);
            } else if (value < least || value > most) {
                refuse(OUT_OF_BOUNDS);
            }
            return fault == 0 ? value : 0;
        }

        private int takeNumberOf(int least, int most) {
            int n = lookNumber(least, most);
            if (fault == 0) {
                advance();
            }
            return n;
        }

        // -- lines

        private void readPark() {
            if (!takeIfWord("park")) {
                refuse(OUT_OF_PLACE);
            }
            int wide = takeNumberOf(2, 6);
            int high = takeNumberOf(2, 6);
            needSign(';');
            if (fault == 0) {
                plan.layOut(wide, high);
                plan.lines = 1;
            }
        }

        private void readLine() {
            if (takeIfWord("hedge")) {
                readHedge();
            } else if (isWord("wall")) {
                readWall();
            } else if (isWord("walker")) {
                readWalker();
            } else if (takeIfWord("errand")) {
                readErrand();
            } else if (takeIfWord("grows")) {
                plan.law.many = 0;
                readTruth(0);
            } else if (takeIfWord("winter")) {
                plan.winter = takeNumberOf(2, 9);
            } else {
                refuse(OUT_OF_PLACE);
            }
            needSign(';');
            plan.lines++;
        }

        private int takeCell() {
            int x = takeNumberOf(0, plan.wide - 1);
            int y = takeNumberOf(0, plan.high - 1);
            return fault == 0 ? plan.wide * y + x : 0;
        }

        private void readHedge() {
            int k = takeCell();
            int kind = takeKind();
            int thick = takeNumberOf(1, THICKEST);
            if (fault == 0) {
                scene.put(k, kind, thick);
            }
        }

        private int takeKind() {
            if (takeIfWord("box")) {
                return 1;
            }
            if (takeIfWord("yew")) {
                return 2;
            }
            if (takeIfWord("beech")) {
                return 3;
            }
            refuse(OUT_OF_PLACE);
            return PATH;
        }

        private void readWall() {
            if (plan.walkers > 0) {
                refuse(OUT_OF_PLACE);
                return;
            }
            advance();
            int k = takeCell();
            if (fault == 0) {
                scene.put(k, WALL, 0);
            }
        }

        private void readWalker() {
            if (plan.walkers >= MOST_WALKERS) {
                refuse(TOO_MANY);
                return;
            }
            advance();
            int x = takeNumberOf(0, plan.wide - 1);
            int y = lookNumber(0, plan.high - 1);
            if (fault != 0) {
                return;
            }
            int k = plan.wide * y + x;
            if (scene.kind[k] == WALL) {
                refuse(OUT_OF_BOUNDS);
                return;
            }
            advance();
            boolean free = takeIfWord("free");
            int age = takeIfWord("age") ? takeNumberOf(0, 999) : 0;
            if (fault == 0) {
                scene.at[plan.walkers] = k;
                scene.age[plan.walkers] = age;
                plan.addWalker(free);
            }
        }

        private void readErrand() {
            int w = lookNumber(0, plan.walkers - 1);
            if (fault != 0) {
                return;
            }
            if (plan.errands[w] >= MOST_ERRANDS) {
                refuse(TOO_MANY);
                return;
            }
            advance();
            int k = takeCell();
            int time = takeNumberOf(0, 999);
            if (fault == 0) {
                plan.addErrand(w, k, time);
            }
        }

        // -- the law; depth: how many of not [ ( stand round what is read

        private void readTruth(int depth) {
            readBoth(depth);
            for (int i = 0; i < MOST_BYTES && takeIfWord("or"); i++) {
                readBoth(depth);
                plan.law.put(Law.OR);
            }
        }

        private void readBoth(int depth) {
            readUnit(depth);
            for (int i = 0; i < MOST_BYTES && takeIfWord("and"); i++) {
                readUnit(depth);
                plan.law.put(Law.AND);
            }
        }

        private void readUnit(int depth) {
            if (isWord("not")) {
                if (goDeeper(depth)) {
                    readUnit(depth + 1);
                    plan.law.put(Law.NOT);
                }
            } else if (isSign('[')) {
                if (goDeeper(depth)) {
                    readTruth(depth + 1);
                    needSign(']');
                }
            } else {
                readSum(depth);
                int code = takeComparison();
                readSum(depth);
                plan.law.put(code);
            }
        }

        private boolean goDeeper(int depth) {
            if (depth >= DEEPEST) {
                refuse(TOO_MANY);
                return false;
            }
            advance();
            return fault == 0;
        }

        private int takeComparison() {
            if (takeIfSign('=')) {
                return Law.EQUAL;
            }
            if (takeIfSign('<')) {
                return Law.LESS;
            }
            if (!takeIfSign('>')) {
                refuse(OUT_OF_PLACE);
            }
            return Law.MORE;
        }

        private void readSum(int depth) {
            readTerm(depth);
            for (int i = 0; i < MOST_BYTES && (isSign('+') || isSign('-')); i++) {
                int code = isSign('+') ? Law.PLUS : Law.MINUS;
                advance();
                readTerm(depth);
                plan.law.put(code);
            }
        }

        private void readTerm(int depth) {
            readAtom(depth);
            for (int i = 0; i < MOST_BYTES && takeIfSign('*'); i++) {
                readAtom(depth);
                plan.law.put(Law.TIMES);
            }
        }

        private void readAtom(int depth) {
            if (fault != 0) {
                return;
            }
            if (isSign('(')) {
                if (goDeeper(depth)) {
                    readSum(depth + 1);
                    needSign(')');
                }
                return;
            }
            int code = sort == NUMBER ? value : factAtHand();
            if (code == NONE) {
                refuse(OUT_OF_PLACE);
                return;
            }
            plan.law.put(code);
            advance();
        }

        private int factAtHand() {
            if (isWord("x")) {
                return Law.X;
            }
            if (isWord("y")) {
                return Law.Y;
            }
            if (isWord("kind")) {
                return Law.KIND;
            }
            if (isWord("thick")) {
                return Law.THICK;
            }
            if (isWord("near")) {
                return Law.NEAR;
            }
            return isWord("night") ? Law.NIGHT : NONE;
        }
    }

    /** Nights, and by what law hedges grow in them. */
    private static final class Growth {
        /** Six parts within one another leave some twenty numbers open at most. */
        private final int[] stack = new int[64];
        private final int[] facts = new int[Law.FACTS];

        boolean wouldGrow(Plan plan, Scene scene, int k, long hedges) {
            if (!has(hedges, k) || scene.thick[k] >= THICKEST || plan.law.many == 0) {
                return false;
            }
            facts[Law.X - Law.FIRST_FACT] = plan.xOf(k);
            facts[Law.Y - Law.FIRST_FACT] = plan.yOf(k);
            facts[Law.KIND - Law.FIRST_FACT] = scene.kind[k];
            facts[Law.THICK - Law.FIRST_FACT] = scene.thick[k];
            facts[Law.NEAR - Law.FIRST_FACT] = Long.bitCount(plan.besideBits(1L << k) & hedges);
            facts[Law.NIGHT - Law.FIRST_FACT] = scene.night % 1000;
            return holds(plan.law);
        }

        private boolean holds(Law law) {
            int top = NONE;
            for (int i = 0; i < law.many; i++) {
                int code = law.codes[i];
                if (code < Law.NOT) {
                    if (top + 1 >= stack.length) {
                        return false;
                    }
                    top++;
                    stack[top] = code < Law.FIRST_FACT ? code : facts[code - Law.FIRST_FACT];
                } else if (code == Law.NOT) {
                    if (top < 0) {
                        return false;
                    }
                    stack[top] = 1 - stack[top];
                } else {
                    if (top < 1) {
                        return false;
                    }
                    top--;
                    stack[top] = Law.join(code, stack[top], stack[top + 1]);
                }
            }
            return top == 0 && stack[0] == 1;
        }

        int pass(Plan plan, Scene scene, int nights) {
            int thicker = 0;
            for (int i = 0; i < nights; i++) {
                thicker += passOne(plan, scene);
            }
            return thicker;
        }

        int passOne(Plan plan, Scene scene) {
            long hedges = scene.hedgeBits();
            // All grow at once: none may see how thick another is already.
            long growing = 0;
            for (int k = 0; k < plan.cells(); k++) {
                if (wouldGrow(plan, scene, k, hedges)) {
                    growing |= 1L << k;
                }
            }
            for (int k = 0; k < plan.cells(); k++) {
                if (has(growing, k)) {
                    scene.thick[k]++;
                }
            }
            scene.night++;
            scene.time = 0;
            return Long.bitCount(growing);
        }
    }

    /** What walks cost at least. */
    private static final class Ways {
        /** What it costs to go to each cell; NONE: a wall. */
        final int[] cost = new int[MOST_CELLS];
        /** The least cost to each cell; FAR: there is no way. */
        final int[] far = new int[MOST_CELLS];
        /** An earlier row of least costs, for calls that need two. */
        final int[] kept = new int[MOST_CELLS];
        /** The cells of a way. */
        final int[] row = new int[MOST_CELLS + 1];
        private long settled;
        private final int[] order = new int[MOST_CELLS];
        private int reached;
        private final long[] many = new long[MOST_CELLS];

        static int costOf(Plan plan, Scene scene, int k, boolean free) {
            int kind = scene.kind[k];
            if (kind == WALL) {
                return NONE;
            }
            if (free || kind == PATH) {
                return 1;
            }
            int push = scene.thick[k] * kind;
            return 1 + (plan.isWinter(scene.night) ? push / 2 : push);
        }

        void price(Plan plan, Scene scene, boolean free) {
            for (int k = 0; k < plan.cells(); k++) {
                cost[k] = costOf(plan, scene, k, free);
            }
        }

        void spreadOf(Plan plan, Scene scene, int w) {
            price(plan, scene, plan.isFree(w));
            spread(plan, scene.at[w]);
        }

        void stand(int from) {
            Arrays.fill(far, FAR);
            if (cost[from] != NONE) {
                far[from] = 0;
            }
        }

        void spread(Plan plan, int from) {
            stand(from);
            settle(plan);
        }

        /** The least cost to a cell if another were a wall. */
        int spreadWithout(Plan plan, int from, int to, int walled) {
            int was = cost[walled];
            cost[walled] = NONE;
            spread(plan, from);
            cost[walled] = was;
            return far[to];
        }

        private void settle(Plan plan) {
            settled = 0;
            reached = 0;
            for (int i = 0; i < plan.cells(); i++) {
                int c = nearest(plan.cells());
                if (c == NONE) {
                    return;
                }
                settled |= 1L << c;
                order[reached] = c;
                reached++;
                for (int side = SIDES * c; side < SIDES * c + SIDES; side++) {
                    int n = plan.beside[side];
                    if (n != NONE && cost[n] != NONE) {
                        far[n] = Math.min(far[n], far[c] + cost[n]);
                    }
                }
            }
        }

        private int nearest(int cells) {
            int least = FAR;
            int which = NONE;
            for (int c = 0; c < cells; c++) {
                if (far[c] < least && !has(settled, c)) {
                    least = far[c];
                    which = c;
                }
            }
            return which;
        }

        boolean isIn(int k, int c) {
            return far[k] < FAR && far[k] <= c;
        }

        void keep() {
            System.arraycopy(far, 0, kept, 0, MOST_CELLS);
        }

        void keepLess() {
            for (int k = 0; k < MOST_CELLS; k++) {
                kept[k] = Math.min(kept[k], far[k]);
            }
        }

        /**
         * Lays the way into the row: how many steps it has, or NONE. It is sought from its end: a walk and
         * the same walk back differ in cost by what both ends cost, so the same walks are cheapest.
         */
        int trace(Plan plan, int from, int to) {
            spread(plan, to);
            if (far[from] >= FAR) {
                return NONE;
            }
            int c = from;
            row[0] = from;
            int steps = 0;
            while (c != to && steps < MOST_CELLS) {
                c = onward(plan, c);
                if (c == NONE) {
                    return NONE;
                }
                steps++;
                row[steps] = c;
            }
            return steps;
        }

        private int onward(Plan plan, int c) {
            for (int side = SIDES * c; side < SIDES * c + SIDES; side++) {
                int n = plan.beside[side];
                if (n != NONE && far[n] + cost[c] == far[c]) {
                    return n;
                }
            }
            return NONE;
        }

        long rowBits(int steps) {
            long bits = 0;
            for (int i = 0; i <= steps && i < row.length; i++) {
                bits |= 1L << row[i];
            }
            return bits;
        }

        /** How many walks have the least cost, behind a spread; cells are counted as they were settled. */
        long manyTo(Plan plan, int to) {
            Arrays.fill(many, 0L);
            for (int i = 0; i < reached; i++) {
                int c = order[i];
                many[c] = i == 0 ? 1 : 0;
                for (int side = SIDES * c; side < SIDES * c + SIDES; side++) {
                    int n = plan.beside[side];
                    if (n != NONE && far[n] + cost[c] == far[c]) {
                        many[c] += many[n];
                    }
                }
            }
            return many[to];
        }

        /** From the least costs by some steps to those by one more: whether any is less. */
        boolean stepOn(Plan plan) {
            keep();
            boolean less = false;
            for (int k = 0; k < plan.cells(); k++) {
                if (cost[k] != NONE && lessFromBeside(plan, k, cost[k])) {
                    less = true;
                }
            }
            return less;
        }

        /** From the least costs with some hedges cleared to those with one more: whether any is less. */
        boolean clearOneMore(Plan plan, Scene scene) {
            keep();
            boolean less = false;
            for (int k = 0; k < plan.cells(); k++) {
                if (scene.isHedge(k) && lessFromBeside(plan, k, 1)) {
                    less = true;
                }
            }
            if (less) {
                settle(plan);
            }
            return less;
        }

        private boolean lessFromBeside(Plan plan, int k, int price) {
            int was = far[k];
            for (int side = SIDES * k; side < SIDES * k + SIDES; side++) {
                int n = plan.beside[side];
                if (n != NONE) {
                    far[k] = Math.min(far[k], kept[n] + price);
                }
            }
            return far[k] < was;
        }
    }

    /**
     * How many cells part two: as many as there are ways that share none. Each cell is two nodes, one
     * that is entered (2k) and one that is left (2k + 1), between which one way alone may pass.
     */
    private static final class Cut {
        /** The cells that a way passes. */
        private long passed;
        /** 1 where a way goes from a cell to one beside it, else 0. */
        private final int[] along = new int[MOST_CELLS * SIDES];
        private final int[] queue = new int[2 * MOST_CELLS];
        private final int[] source = new int[2 * MOST_CELLS];
        private int queued;

        int least(Plan plan, long open, int from, int to) {
            passed = 0;
            Arrays.fill(along, 0);
            int ways = 0;
            while (ways < SIDES && findOne(plan, open, from, to)) {
                turnOver(plan, from, to);
                ways++;
            }
            return ways;
        }

        private boolean findOne(Plan plan, long open, int from, int to) {
            Arrays.fill(source, NONE);
            queued = 0;
            int start = 2 * from + 1;
            // Neither node of the start is ever entered again.
            source[2 * from] = start;
            visit(start, start);
            for (int i = 0; i < queue.length && i < queued && source[2 * to] == NONE; i++) {
                int node = queue[i];
                if (node % 2 == 1) {
                    leave(plan, open, node);
                } else {
                    enter(plan, node);
                }
            }
            return source[2 * to] != NONE;
        }

        private void visit(int node, int by) {
            if (source[node] == NONE && queued < queue.length) {
                source[node] = by;
                queue[queued] = node;
                queued++;
            }
        }

        private void leave(Plan plan, long open, int node) {
            int c = node / 2;
            if (has(passed, c)) {
                visit(2 * c, node);
            }
            for (int side = SIDES * c; side < SIDES * c + SIDES; side++) {
                int n = plan.beside[side];
                if (n != NONE && has(open, n) && along[side] == 0) {
                    visit(2 * n, node);
                }
            }
        }

        private void enter(Plan plan, int node) {
            int c = node / 2;
            if (!has(passed, c)) {
                visit(2 * c + 1, node);
            }
            for (int side = SIDES * c; side < SIDES * c + SIDES; side++) {
                int n = plan.beside[side];
                int back = sideTo(plan, n, c);
                if (back != NONE && along[back] != 0) {
                    visit(2 * n + 1, node);
                }
            }
        }

        private static int sideTo(Plan plan, int c, int n) {
            if (c == NONE) {
                return NONE;
            }
            for (int side = SIDES * c; side < SIDES * c + SIDES; side++) {
                if (plan.beside[side] == n) {
                    return side;
                }
            }
            return NONE;
        }

        /** Along what was found: what no way took is taken, what one took is given back. */
        private void turnOver(Plan plan, int from, int to) {
            int node = 2 * to;
            for (int i = 0; i < queue.length && node != 2 * from + 1; i++) {
                int by = source[node];
                if (by == NONE) {
                    return;
                }
                int c = by / 2;
                int n = node / 2;
                if (c == n) {
                    passed ^= 1L << c;
                } else {
                    boolean onward = by % 2 == 1;
                    int side = onward ? sideTo(plan, c, n) : sideTo(plan, n, c);
                    if (side != NONE) {
                        along[side] = onward ? 1 : 0;
                    }
                }
                node = by;
            }
        }
    }

    /** Walks that took just so long, of which cells may come again. */
    private static final class Strolls {
        private final long[] ofCost = new long[MOST_QUARTERS + 1];
        /** The cells where one may be behind so many quarters. */
        final long[] there = new long[MOST_QUARTERS + 1];
        /** The cells from which one may come to the end in so many quarters more. */
        private final long[] thence = new long[MOST_QUARTERS + 1];
        private final long[] many = new long[(MOST_QUARTERS + 1) * MOST_CELLS];
        private final Ways ways = new Ways();
        private int from;
        private int to;
        private int quarters;

        void prepare(Plan plan, Scene scene, int w, int end, int t) {
            ways.price(plan, scene, plan.isFree(w));
            from = scene.at[w];
            to = end;
            quarters = t;
            Arrays.fill(ofCost, 0L);
            for (int k = 0; k < plan.cells(); k++) {
                int cost = ways.cost[k];
                if (cost >= 1 && cost <= MOST_QUARTERS) {
                    ofCost[cost] |= 1L << k;
                }
            }
            there[0] = 1L << from;
            thence[0] = 1L << to;
            for (int s = 1; s <= quarters; s++) {
                there[s] = 0;
                thence[s] = 0;
                for (int q = 1; q <= s; q++) {
                    if (ofCost[q] != 0) {
                        there[s] |= plan.besideBits(there[s - q]) & ofCost[q];
                        thence[s] |= plan.besideBits(thence[s - q] & ofCost[q]);
                    }
                }
            }
        }

        long passed() {
            long bits = 0;
            for (int s = 0; s <= quarters; s++) {
                bits |= there[s] & thence[quarters - s];
            }
            return bits;
        }

        /** How many there are, or, if a cell is told, how many of them don't come by it. */
        long countWithout(Plan plan, int avoided) {
            for (int s = 0; s <= quarters; s++) {
                // Only what lies on a whole walk is counted; all else would count for nothing.
                long live = there[s] & thence[quarters - s];
                for (int k = 0; k < plan.cells(); k++) {
                    boolean counts = has(live, k) && k != avoided;
                    many[MOST_CELLS * s + k] = counts ? manyBehind(plan, s, k) : 0;
                }
            }
            return many[MOST_CELLS * quarters + to];
        }

        private long manyBehind(Plan plan, int s, int k) {
            if (s == 0) {
                return 1;
            }
            int before = s - ways.cost[k];
            if (before < 0 || before >= s) {
                return 0;
            }
            long sum = 0;
            for (int side = SIDES * k; side < SIDES * k + SIDES; side++) {
                int n = plan.beside[side];
                if (n != NONE) {
                    sum += many[MOST_CELLS * before + n];
                }
            }
            return sum;
        }

        long countBy(Plan plan, int k, long all) {
            if (!has(passed(), k)) {
                return 0;
            }
            return k == from || k == to ? all : all - countWithout(plan, k);
        }
    }

    /** Rounds of a walker's errands, in any order. */
    private static final class Rounds {
        private final Ways ways = new Ways();
        /** What it costs to each errand, from where the walker stands (row 0) and from each other one. */
        private final int[] legs = new int[(MOST_ERRANDS + 1) * MOST_ERRANDS];
        private final int[] due = new int[MOST_ERRANDS];
        private final int[] order = new int[MOST_ERRANDS];
        private int errands;
        private int start;

        int cost;
        int late;
        int firstLate;

        final int[] best = new int[MOST_ERRANDS];
        int bestCost;
        int bestLate;

        void prepare(Plan plan, Scene scene, int w) {
            errands = plan.errands[w];
            start = scene.time;
            ways.price(plan, scene, plan.isFree(w));
            for (int i = 0; i <= errands; i++) {
                int from = i == 0 ? scene.at[w] : plan.errandCell[MOST_ERRANDS * w + i - 1];
                ways.spread(plan, from);
                for (int e = 0; e < errands; e++) {
                    legs[MOST_ERRANDS * i + e] = ways.far[plan.errandCell[MOST_ERRANDS * w + e]];
                }
            }
            for (int e = 0; e < errands; e++) {
                due[e] = plan.errandTime[MOST_ERRANDS * w + e];
            }
        }

        void inOrderTold() {
            for (int e = 0; e < errands; e++) {
                order[e] = e;
            }
            goRound();
        }

        private void goRound() {
            cost = 0;
            late = 0;
            firstLate = NONE;
            int from = 0;
            boolean stuck = false;
            for (int i = 0; i < errands; i++) {
                int e = order[i];
                int leg = legs[MOST_ERRANDS * from + e];
                stuck = stuck || leg >= FAR;
                if (!stuck) {
                    cost += leg;
                    from = e + 1;
                }
                if (stuck || start + cost > due[e]) {
                    late++;
                    if (firstLate == NONE) {
                        firstLate = e;
                    }
                }
            }
        }

        void inBestOrder() {
            bestLate = errands + 1;
            bestCost = FAR;
            int rows = 1;
            for (int i = 0; i < errands; i++) {
                rows *= errands;
            }
            for (int row = 0; row < rows; row++) {
                if (isOrder(row)) {
                    goRound();
                    if (late < bestLate || late == bestLate && cost < bestCost) {
                        bestLate = late;
                        bestCost = cost;
                        System.arraycopy(order, 0, best, 0, MOST_ERRANDS);
                    }
                }
            }
        }

        /** A number's digits, to the base of how many errands there are, are an order if they all differ. */
        private boolean isOrder(int row) {
            int rest = row;
            int seen = 0;
            for (int i = errands - 1; i >= 0; i--) {
                order[i] = rest % errands;
                rest /= errands;
                seen |= 1 << order[i];
            }
            return seen == (1 << errands) - 1;
        }
    }

    /** Told deeds: whether they can be, and how they are done. */
    private static final class Deeds {
        private static final int CLIPPING = 1000;
        private static final int PLANTING = 2000;
        /** A number that tells no deed. */
        private static final int NO_DEED = -2;

        private final Ways ways = new Ways();
        private final Growth growth = new Growth();
        int seed;

        static int toldWalk(int w, int k) {
            return 100 * w + k;
        }

        /** 0: it can be; 1: there is no such thing; 2: it can't be as all is now. */
        int whyNot(Plan plan, Scene scene, long told) {
            if (told == NONE) {
                return 0;
            }
            if (told < 0 || told >= PLANTING + 400) {
                return 1;
            }
            int v = (int) told;
            int k = v % 100;
            int hundreds = v / 100;
            if (k >= plan.cells()) {
                return 1;
            }
            if (hundreds < plan.walkers) {
                long open = scene.openBits(plan.cells());
                return has(plan.flood(scene.at[hundreds], open), k) ? 0 : 2;
            }
            if (hundreds == CLIPPING / 100) {
                return scene.isHedge(k) ? 0 : 2;
            }
            if (hundreds > PLANTING / 100) {
                return scene.isPlot(plan.walkers, k) ? 0 : 2;
            }
            return 1;
        }

        /** Does what whyNot() has nothing against. */
        void act(Plan plan, Scene scene, int told) {
            if (told == NONE) {
                growth.passOne(plan, scene);
            } else if (told < CLIPPING) {
                goTo(plan, scene, told / 100, told % 100);
            } else if (told < PLANTING) {
                scene.shear(told % 100, 1);
            } else {
                scene.put(told % 100, told / 100 % 10, 1);
            }
        }

        int goTo(Plan plan, Scene scene, int w, int k) {
            ways.price(plan, scene, plan.isFree(w));
            ways.spread(plan, scene.at[w]);
            int cost = ways.far[k];
            scene.time += cost;
            scene.age[w] += cost;
            scene.at[w] = k;
            return cost;
        }

        private int draw(int below) {
            seed = 1103515245 * seed + 12345;
            return below > 0 ? (seed >>> 16) % below : 0;
        }

        long drawDeed(Plan plan) {
            switch (draw(4)) {
                case 0:
                    return NONE;
                case 1:
                    if (plan.walkers == 0) {
                        return NO_DEED;
                    }
                    int w = draw(plan.walkers);
                    return toldWalk(w, draw(plan.cells()));
                case 2:
                    return CLIPPING + draw(plan.cells());
                default:
                    int k = draw(plan.cells());
                    return PLANTING + 100 * (1 + draw(LAST_KIND)) + k;
            }
        }
    }
}
