import java.util.NoSuchElementException;

/**
 * "Of several throws of a call that one comes that is told first. A call that throws changes nothing.": every call
 * with arguments below, at and above each of its bounds, in all their mixtures; and questions change nothing at all.
 */
public final class RefusedTest {
    private static final int MOST = Integer.MAX_VALUE;
    private static final int LEAST = Integer.MIN_VALUE;
    private static final Class<?> NO_SUCH = NoSuchElementException.class;
    private static final Class<?> ARGUMENT = IllegalArgumentException.class;
    private static final Class<?> STATE = IllegalStateException.class;
    private static final Class<?> INDEX = IndexOutOfBoundsException.class;
    private static final Class<?> NOTHING = null;
    private static final Check CHECK = new Check();

    private static final int[] WALKERS = {LEAST, -1, 0, 1, 2, 4, 5, MOST};
    private static final int[] CELLS = {LEAST, -1, 0, 5, 7, 11, 12, 35, 36, MOST};
    private static final int[] TRAYS = {LEAST, -1, 0, 1, 2, 3, 4, MOST};
    private static final int[] COSTS = {LEAST, -1, 0, 7, MOST};

    interface On {
        long answer(HedgePark park);
    }

    /** A park of 12 cells and 2 walkers behind five deeds: hedges are 2, 7 and 9, walkers on 3 and 4, a wall is 5. */
    private static HedgePark used() {
        HedgePark park = Check.of("park 4 3;wall 1 1;hedge 2 0 box 3;hedge 3 1 yew 2;walker 0 0;walker 0 2 free age 10;"
                + "errand 0 3 0 4;errand 0 0 1 20;grows kind=1;winter 2;");
        park.image(0);
        park.walk(0, 3);
        park.clip(2, 1);
        park.plant(9, 2);
        park.nights(1);
        park.walk(1, 4);
        park.tray(0, 1, 3);
        park.write(0, 0, 1002);
        park.write(0, 1, 7);
        park.tray(1, 0, 0);
        park.tray(2, 3, 40);
        Check.lay(park, "park 2 2;wall 2 0;");
        Check.feed(park, "park 2 2;");
        return park;
    }

    private static final HedgePark USED = used();
    private static final String LOOK = Look.back(USED);

    private static void refused(String call, Class<?> kind, On on) {
        CHECK.due(call, Check.outcome(() -> on.answer(USED)), kind.getSimpleName());
        CHECK.due("what can be seen behind " + call, Look.back(USED), LOOK);
    }

    private static void question(String call, Class<?> kind, On on) {
        if (kind != NOTHING) {
            refused(call, kind, on);
            return;
        }
        String got = Check.outcome(() -> on.answer(USED));
        CHECK.due(call + " answered " + got + ", a throw", got.endsWith("Exception") ? 1 : 0, 0);
        CHECK.due("what can be seen behind " + call, Look.back(USED), LOOK);
    }

    private static void deed(String call, Class<?> kind, On on) {
        if (kind != NOTHING) {
            refused(call, kind, on);
            return;
        }
        String got = Check.outcome(() -> on.answer(used()));
        CHECK.due(call + " answered " + got + ", a throw", got.endsWith("Exception") ? 1 : 0, 0);
    }

    private static boolean in(int n, int least, int most) {
        return n >= least && n <= most;
    }

    private static boolean isAny(int n, int... row) {
        for (int r : row) {
            if (r == n) {
                return true;
            }
        }
        return false;
    }

    /** What comes: the first throw if its condition isn't met, else the second, if its one isn't. */
    private static Class<?> of(boolean met, Class<?> first, boolean metToo, Class<?> second) {
        if (!met) {
            return first;
        }
        return metToo ? NOTHING : second;
    }

    private static String told(String name, Object... arguments) {
        StringBuilder b = new StringBuilder(name).append('(');
        for (int i = 0; i < arguments.length; i++) {
            b.append(i == 0 ? "" : ", ").append(arguments[i]);
        }
        return b.append(')').toString();
    }

    private static void ofWalkersAndCells() {
        for (int w : WALKERS) {
            for (int k : CELLS) {
                boolean both = in(w, 0, 1) && in(k, 0, 11);
                Class<?> kind = both ? NOTHING : NO_SUCH;
                deed(told("walk", w, k), kind, p -> p.walk(w, k));
                question(told("soonest", w, k), kind, p -> p.soonest(w, k));
                question(told("ways", w, k), kind, p -> p.ways(w, k));
                question(told("shutOff", w, k), kind, p -> p.shutOff(w, k));
                question(told("needed", w, k), kind, p -> p.needed(w, k));
                question(told("dearest", w, k), kind, p -> p.dearest(w, k));
                for (int i : new int[] {LEAST, -2, -1, 0, 1, 35, 36, 37, MOST}) {
                    question(told("way", w, k, i), kind, p -> p.way(w, k, i));
                }
                withMore(w, k, both);
                ofQuarters(w, k, both);
            }
        }
    }

    private static void withMore(int w, int k, boolean both) {
        for (int n : new int[] {LEAST, -1, 0, 1, 98, 99, 100, MOST}) {
            Class<?> kind = of(both, NO_SUCH, in(n, 0, 99), ARGUMENT);
            question(told("within", w, k, n), kind, p -> p.within(w, k, n));
            question(told("soonestIn", w, k, n), kind, p -> p.soonestIn(w, k, n));
            question(told("bestNight", w, k, n), kind, p -> p.bestNight(w, k, n));
        }
        for (int c : COSTS) {
            Class<?> kind = of(both, NO_SUCH, c >= 0, ARGUMENT);
            question(told("steps", w, k, c), kind, p -> p.steps(w, k, c));
            question(told("grownTo", w, k, c), kind, p -> p.grownTo(w, k, c));
            for (int what : new int[] {LEAST, -1, 0, 1, 2, MOST}) {
                Class<?> kindToo = of(both, NO_SUCH, c >= 0 && in(what, 0, 1), ARGUMENT);
                question(told("clipFor", w, k, c, what), kindToo, p -> p.clipFor(w, k, c, what));
            }
        }
        for (int m : new int[] {LEAST, -1, 0, 1, 35, 36, 37, MOST}) {
            Class<?> kind = of(both, NO_SUCH, in(m, 0, 36), ARGUMENT);
            question(told("cleared", w, k, m), kind, p -> p.cleared(w, k, m));
        }
    }

    private static void ofQuarters(int w, int k, boolean both) {
        for (int t : new int[] {LEAST, -1, 0, 1, 29, 30, 31, MOST}) {
            Class<?> kind = of(both, NO_SUCH, in(t, 0, 30), ARGUMENT);
            question(told("walks", w, k, t), kind, p -> p.walks(w, k, t));
            question(told("been", w, k, t), kind, p -> p.been(w, k, t));
            question(told("tells", w, k, t), kind, p -> p.tells(w, k, t));
            for (int cell : CELLS) {
                Class<?> kindToo = of(both && in(cell, 0, 11), NO_SUCH, in(t, 0, 30), ARGUMENT);
                question(told("through", w, k, t, cell), kindToo, p -> p.through(w, k, t, cell));
            }
        }
    }

    private static void ofWalkers() {
        for (int w : WALKERS) {
            boolean one = in(w, 0, 1);
            question(told("farthest", w), one ? NOTHING : NO_SUCH, p -> p.farthest(w));
            question(told("own", w), one ? NOTHING : NO_SUCH, p -> p.own(w));
            for (int c : COSTS) {
                question(told("reach", w, c), of(one, NO_SUCH, c >= 0, ARGUMENT), p -> p.reach(w, c));
            }
            for (int t : new int[] {LEAST, -1, 0, 30, 31, MOST}) {
                question(told("maybe", w, t), of(one, NO_SUCH, in(t, 0, 30), ARGUMENT), p -> p.maybe(w, t));
            }
            for (int what = -1; what <= 30; what++) {
                whats(w, what, one);
            }
            whats(w, LEAST, one);
            whats(w, MOST, one);
            for (int v : WALKERS) {
                for (int what : new int[] {LEAST, -1, 0, 1, 2, MOST}) {
                    boolean fits = w != v && in(what, 0, 1);
                    Class<?> kind = of(one && in(v, 0, 1), NO_SUCH, fits, ARGUMENT);
                    question(told("meet", w, v, true, what), kind, p -> p.meet(w, v, true, what));
                    question(told("meet", w, v, false, what), kind, p -> p.meet(w, v, false, what));
                }
            }
        }
    }

    private static void whats(int w, int what, boolean one) {
        boolean ofWalker = in(what, 0, 3) || in(what, 10, 13) || in(what, 20, 23);
        boolean ofOrder = in(what, 0, 1) || in(what, 10, 13);
        question(told("walker", w, what), of(one, NO_SUCH, ofWalker, ARGUMENT), p -> p.walker(w, what));
        question(told("round", w, what), of(one, NO_SUCH, in(what, 0, 2), ARGUMENT), p -> p.round(w, what));
        question(told("bestOrder", w, what), of(one, NO_SUCH, ofOrder, ARGUMENT), p -> p.bestOrder(w, what));
    }

    private static void ofCells() {
        for (int k : new int[] {LEAST, -1, 0, 2, 3, 4, 5, 7, 9, 11, 12, 36, MOST}) {
            boolean one = in(k, 0, 11);
            question(told("first", k), one ? NOTHING : NO_SUCH, p -> p.first(k));
            for (int what : new int[] {LEAST, -1, 0, 4, 5, MOST}) {
                question(told("cell", k, what), of(one, NO_SUCH, in(what, 0, 4), ARGUMENT), p -> p.cell(k, what));
            }
            for (int n : new int[] {LEAST, -1, 0, 1, 60, 61, MOST}) {
                Class<?> kind = isAny(k, 2, 7, 9) ? of(in(n, 1, 60), ARGUMENT, true, NOTHING) : STATE;
                deed(told("clip", k, n), one ? kind : NO_SUCH, p -> p.clip(k, n));
            }
            for (int plant : new int[] {LEAST, -1, 0, 1, 3, 4, MOST}) {
                Class<?> kind = of(in(plant, 1, 3), ARGUMENT, !isAny(k, 2, 3, 4, 5, 7, 9), STATE);
                deed(told("plant", k, plant), one ? kind : NO_SUCH, p -> p.plant(k, plant));
            }
        }
    }

    private static void ofDeeds() {
        for (int n : new int[] {LEAST, -1, 0, 1, 99, 100, MOST}) {
            deed(told("nights", n), in(n, 1, 99) ? NOTHING : ARGUMENT, p -> p.nights(n));
        }
        for (int n : new int[] {LEAST, -1, 0, 1, 5, 6, 10, 11, MOST}) {
            deed(told("undo", n), in(n, 1, 5) ? NOTHING : ARGUMENT, p -> p.undo(n));
        }
        for (int seed : new int[] {LEAST, -1, 0, MOST}) {
            for (int times : new int[] {LEAST, -1, 0, 1, 30, 31, MOST}) {
                deed(told("decade", seed, times), in(times, 1, 30) ? NOTHING : ARGUMENT, p -> p.decade(seed, times));
            }
        }
    }

    private static long laid(HedgePark park, int tray, int sort, int many) {
        park.tray(tray, sort, many);
        return 0;
    }

    private static long imaged(HedgePark park, int i) {
        park.image(i);
        return 0;
    }

    private static long restored(HedgePark park, int i) {
        park.restore(i);
        return 0;
    }

    private static void ofTrays() {
        for (int t : TRAYS) {
            boolean one = in(t, 0, 3);
            boolean there = t != 3;
            deed(told("perform", t), of(one, NO_SUCH, there, STATE), p -> p.perform(t));
            deed(told("copy", t), of(one, NO_SUCH, there, STATE), p -> p.copy(t));
            for (int what : new int[] {LEAST, -1, 0, 3, 4, MOST}) {
                Class<?> kind = of(there, STATE, in(what, 0, 3), ARGUMENT);
                question(told("judge", t, what), one ? kind : NO_SUCH, p -> p.judge(t, what));
            }
            for (int place : new int[] {LEAST, -1, 0, 2, 3, 39, 40, MOST}) {
                int places = new int[] {3, 0, 40, 0}[one ? t : 3];
                Class<?> kind = of(there, STATE, in(place, 0, places - 1), INDEX);
                deed(told("write", t, place), one ? kind : NO_SUCH, p -> p.write(t, place, 5));
            }
            for (int sort : new int[] {LEAST, -1, 0, 3, 4, MOST}) {
                for (int many : new int[] {LEAST, -1, 0, 40, 41, MOST}) {
                    Class<?> kind = of(one, NO_SUCH, in(sort, 0, 3) && in(many, 0, 40), ARGUMENT);
                    deed(told("tray", t, sort, many), kind, p -> laid(p, t, sort, many));
                }
            }
        }
    }

    private static void ofImages() {
        for (int i : new int[] {LEAST, -1, 0, 1, 2, 3, MOST}) {
            boolean one = in(i, 0, 2);
            deed(told("image", i), one ? NOTHING : NO_SUCH, p -> imaged(p, i));
            // a look back makes image 2, so one that was never made is asked of image 1 alone
            if (i != 2) {
                deed(told("restore", i), of(one, NO_SUCH, i == 0, STATE), p -> restored(p, i));
            }
        }
        CHECK.due("restore(2) of an image that was never made",
                Check.outcome(() -> restored(used(), 2)), STATE.getSimpleName());
    }

    private static void ofTheTape() {
        for (int n : new int[] {LEAST, -1, 0, 9, 20, 21, 900, 901, MOST}) {
            deed(told("park", n), in(n, 0, 20) ? NOTHING : ARGUMENT, p -> p.park(n));
        }
        for (int what : new int[] {LEAST, -1, 0, 1, 2, MOST}) {
            question(told("fault", what), NOTHING, p -> p.fault(what));
        }
        for (int what : new int[] {LEAST, -1, 0, 11, 12, MOST}) {
            question(told("count", what), NOTHING, p -> p.count(what));
        }
        question("hedges()", NOTHING, HedgePark::hedges);
        question("thickness()", NOTHING, HedgePark::thickness);
    }

    /** Of a new object nothing can be asked of cells, walkers, trays or images. */
    private static void ofANewObject() {
        HedgePark park = new HedgePark();
        String look = Look.at(park);
        Check.Call[] noSuch = {() -> park.cell(0, 0), () -> park.walker(0, 0), () -> park.walk(0, 0),
            () -> park.clip(0, 1), () -> park.plant(0, 1), () -> park.soonest(0, 0), () -> park.way(0, 0, 0),
            () -> park.ways(0, 0), () -> park.within(0, 0, 0), () -> park.steps(0, 0, 0), () -> park.cleared(0, 0, 0),
            () -> park.clipFor(0, 0, 0, 0), () -> park.reach(0, 0), () -> park.farthest(0), () -> park.round(0, 0),
            () -> park.bestOrder(0, 0), () -> park.meet(0, 1, true, 0), () -> park.first(0), () -> park.own(0),
            () -> park.shutOff(0, 0), () -> park.needed(0, 0), () -> park.dearest(0, 0), () -> park.soonestIn(0, 0, 0),
            () -> park.bestNight(0, 0, 0), () -> park.grownTo(0, 0, 0), () -> park.walks(0, 0, 0),
            () -> park.been(0, 0, 0), () -> park.through(0, 0, 0, 0), () -> park.tells(0, 0, 0),
            () -> park.maybe(0, 0)};
        for (int i = 0; i < noSuch.length; i++) {
            CHECK.throwsDue("call " + i + " of a new object", NO_SUCH, noSuch[i]);
        }
        Check.Call[] state = {() -> park.judge(0, 9), () -> park.perform(3), () -> park.write(1, -1, 0),
            () -> park.copy(2), () -> park.decade(7, 30), () -> restored(park, 0), () -> restored(park, 1),
            () -> restored(park, 2)};
        for (int i = 0; i < state.length; i++) {
            CHECK.throwsDue("state call " + i + " of a new object", STATE, state[i]);
        }
        CHECK.throwsDue("decade of no times, told ahead of no cells", ARGUMENT, () -> park.decade(7, 31));
        CHECK.throwsDue("undo of nothing", ARGUMENT, () -> park.undo(1));
        CHECK.throwsDue("park of more than nothing", ARGUMENT, () -> park.park(1));
        CHECK.due("a new object behind all that", Look.at(park), look);
    }

    public static void main(String[] args) {
        ofWalkersAndCells();
        ofWalkers();
        ofCells();
        ofDeeds();
        ofTrays();
        ofImages();
        ofTheTape();
        ofANewObject();
        CHECK.end("RefusedTest");
    }
}
