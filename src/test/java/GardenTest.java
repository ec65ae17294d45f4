import java.util.ArrayList;
import java.util.HashMap;
import java.util.List;
import java.util.Map;
import java.util.Random;

/** Holds the class against the plain Garden, through random parks, deeds and questions (promises 5 to 47). */
public final class GardenTest {
    private static final Check CHECK = new Check();
    private static final String NO_SUCH = "NoSuchElementException";
    private static final String ARGUMENT = "IllegalArgumentException";
    private static final String STATE = "IllegalStateException";
    private static final String INDEX = "IndexOutOfBoundsException";

    private final Random random;
    private final HedgePark park = new HedgePark();
    private Garden g;
    private final Garden[] images = new Garden[3];
    private final long[][] trays = new long[4][];
    private final int[] sorts = new int[4];
    private String told = "";

    private GardenTest(int seed, int most) {
        random = new Random(seed);
        g = Garden.random(random, most);
        int lines = Check.lay(park, g.text());
        CHECK.due("seed " + seed + " park of " + g.text(), lines, g.lines);
    }

    private void due(String call, Object want, Check.Call got) {
        CHECK.due(told + " " + call + " in " + g.text(), Check.outcome(got), "" + want);
    }

    /** A number below some bound, now and then one that is out of it. */
    private int some(int below) {
        int r = random.nextInt(25);
        return r == 0 ? -1 : r == 1 ? below : random.nextInt(Math.max(1, below));
    }

    private boolean noWalker(int w) {
        return w < 0 || w >= g.walkers.size();
    }

    private boolean noCell(int k) {
        return k < 0 || k >= g.cells();
    }

    // ---- the state

    private void compareAll() {
        for (int k = 0; k < g.cells(); k++) {
            int c = k;
            due("cell(" + k + ", 0)", g.kind[k], () -> park.cell(c, 0));
            due("cell(" + k + ", 1)", g.thick[k], () -> park.cell(c, 1));
            due("cell(" + k + ", 2)", g.cost(k, false), () -> park.cell(c, 2));
            due("cell(" + k + ", 3)", g.grows(k) ? 1 : 0, () -> park.cell(c, 3));
            due("cell(" + k + ", 4)", g.walkersAt(k), () -> park.cell(c, 4));
        }
        for (int w = 0; w < g.walkers.size(); w++) {
            Garden.Walker walker = g.walkers.get(w);
            int v = w;
            due("walker(" + w + ", 0)", walker.cell, () -> park.walker(v, 0));
            due("walker(" + w + ", 1)", walker.age, () -> park.walker(v, 1));
            due("walker(" + w + ", 2)", walker.free ? 1 : 0, () -> park.walker(v, 2));
            due("walker(" + w + ", 3)", walker.errands.size(), () -> park.walker(v, 3));
            for (int i = 0; i < 4; i++) {
                int j = i;
                boolean is = i < walker.errands.size();
                due("walker 10", is ? walker.errands.get(i)[0] : -1, () -> park.walker(v, 10 + j));
                due("walker 20", is ? walker.errands.get(i)[1] : -1, () -> park.walker(v, 20 + j));
            }
        }
        int walls = 0;
        for (int kind : g.kind) {
            walls += kind == 4 ? 1 : 0;
        }
        int[] counts = {g.lines, g.wide, g.high, g.walkers.size(), g.night, g.time, g.clippings,
            Long.bitCount(g.hedgeBits()), g.past.size(), 0, g.isWinter() ? 1 : 0, walls, -1};
        for (int i = 0; i < counts.length; i++) {
            int what = i;
            due("count(" + i + ")", counts[i], () -> park.count(what));
        }
        due("hedges()", g.hedgeBits(), park::hedges);
        due("thickness()", g.thickness(), park::thickness);
    }

    // ---- deeds

    private void deed() {
        int w = some(g.walkers.size());
        int k = some(g.cells());
        switch (random.nextInt(12)) {
            case 0 -> walk(w, k);
            case 1 -> clip(k, random.nextInt(4) == 0 ? some(61) : 1 + random.nextInt(3));
            case 2 -> plant(k, some(4));
            case 3 -> nights(random.nextInt(3) == 0 ? some(100) : 1 + random.nextInt(4));
            case 4 -> undo(some(4));
            case 5 -> decade(random.nextInt(), some(31));
            case 6 -> image(some(3));
            case 7 -> restore(some(3));
            case 8 -> tray(some(4), some(4), random.nextInt(3) == 0 ? some(41) : random.nextInt(8));
            case 9 -> {
                for (int i = 0; i < 6; i++) {
                    write(some(4), random.nextInt(8), toldDeed());
                }
            }
            case 10 -> perform(some(4));
            default -> copy(some(4));
        }
    }

    private long toldDeed() {
        switch (random.nextInt(9)) {
            case 0: return -1;
            case 1: return 1000 + random.nextInt(g.cells() + 1);
            case 2: return 2000 + 100 * random.nextInt(5) + random.nextInt(g.cells() + 1);
            case 3: return random.nextInt(2600) - 100;
            case 4: return random.nextLong();
            default: return 100 * random.nextInt(Math.max(1, g.walkers.size())) + random.nextInt(g.cells());
        }
    }

    private void walk(int w, int k) {
        told = "walk(" + w + ", " + k + ")";
        Object want = NO_SUCH;
        if (!noWalker(w) && !noCell(k)) {
            want = g.least(g.walkers.get(w), k);
            if (!want.equals(-1)) {
                g.remember();
                g.act(100L * w + k);
            }
        }
        due("", want, () -> park.walk(w, k));
    }

    private void clip(int k, int n) {
        told = "clip(" + k + ", " + n + ")";
        Object want = noCell(k) ? NO_SUCH : !g.hedge(k) ? STATE : n < 1 || n > 60 ? ARGUMENT : "";
        if (want.equals("")) {
            g.remember();
            g.clipBy(k, n);
            want = g.thick[k];
        }
        due("", want, () -> park.clip(k, n));
    }

    private void plant(int k, int kind) {
        told = "plant(" + k + ", " + kind + ")";
        Object want = NO_SUCH;
        if (!noCell(k)) {
            want = kind < 1 || kind > 3 ? ARGUMENT : g.kind[k] != 0 || g.walkersAt(k) != 0 ? STATE : "";
            if (want.equals("")) {
                g.remember();
                g.act(2000 + 100 * kind + k);
                want = Long.bitCount(g.hedgeBits());
            }
        }
        due("", want, () -> park.plant(k, kind));
    }

    private void nights(int n) {
        told = "nights(" + n + ")";
        Object want = ARGUMENT;
        if (n >= 1 && n <= 99) {
            g.remember();
            int was = g.thickness();
            for (int i = 0; i < n; i++) {
                g.passNight();
            }
            want = g.thickness() - was;
        }
        due("", want, () -> park.nights(n));
    }

    private void undo(int n) {
        told = "undo(" + n + ")";
        Object want = ARGUMENT;
        if (n >= 1 && n <= 10 && n <= g.past.size()) {
            g = g.before(n);
            want = g.past.size();
        }
        due("", want, () -> park.undo(n));
    }

    private int draws;

    private int draw() {
        draws = 1103515245 * draws + 12345;
        return draws >>> 16;
    }

    private void decade(int seed, int times) {
        told = "decade(" + seed + ", " + times + ")";
        Object want = ARGUMENT;
        if (times >= 1 && times <= 30) {
            draws = seed;
            int done = 0;
            for (int i = 0; i < times; i++) {
                long deed = -1;
                switch (draw() % 4) {
                    case 0 -> deed = -1;
                    case 1 -> {
                        deed = 9999;
                        if (!g.walkers.isEmpty()) {
                            int w = draw() % g.walkers.size();
                            deed = 100 * w + draw() % g.cells();
                        }
                    }
                    case 2 -> deed = 1000 + draw() % g.cells();
                    default -> {
                        int k = draw() % g.cells();
                        deed = 2100 + 100 * (draw() % 3) + k;
                    }
                }
                if (g.whyNot(deed) == 0) {
                    g.remember();
                    g.act(deed);
                    done++;
                }
            }
            want = done;
        }
        due("", want, () -> park.decade(seed, times));
    }

    private void image(int i) {
        told = "image(" + i + ")";
        boolean is = i >= 0 && i < 3;
        if (is) {
            images[i] = g.twin();
        }
        due("", is ? 0 : NO_SUCH, () -> {
            park.image(i);
            return 0;
        });
    }

    private void restore(int i) {
        told = "restore(" + i + ")";
        Object want = i < 0 || i > 2 ? NO_SUCH : images[i] == null ? STATE : 0;
        if (want.equals(0)) {
            g = images[i].twin();
        }
        due("", want, () -> {
            park.restore(i);
            return 0;
        });
    }

    private void tray(int t, int sort, int many) {
        told = "tray(" + t + ", " + sort + ", " + many + ")";
        Object want = t < 0 || t > 3 ? NO_SUCH : sort < 0 || sort > 3 || many < 0 || many > 40 ? ARGUMENT : 0;
        if (want.equals(0)) {
            trays[t] = new long[many];
            sorts[t] = sort;
        }
        due("", want, () -> {
            park.tray(t, sort, many);
            return 0;
        });
    }

    private String trayWrong(int t) {
        return t < 0 || t > 3 ? NO_SUCH : trays[t] == null ? STATE : "";
    }

    private void write(int t, int place, long v) {
        told = "write(" + t + ", " + place + ", " + v + ")";
        Object want = trayWrong(t);
        if (want.equals("")) {
            want = place < 0 || place >= trays[t].length ? INDEX : "";
            if (want.equals("")) {
                int shift = 64 - (8 << sorts[t]);
                trays[t][place] = v << shift >> shift;
                want = trays[t][place];
            }
        }
        due("", want, () -> park.write(t, place, v));
    }

    private void perform(int t) {
        for (int what = -1; what <= 4; what++) {
            judge(t, what);
        }
        told = "perform(" + t + ")";
        Object want = trayWrong(t);
        if (want.equals("")) {
            int done = 0;
            while (done < trays[t].length && g.whyNot(trays[t][done]) == 0) {
                g.remember();
                g.act(trays[t][done]);
                done++;
            }
            want = done;
        }
        due("", want, () -> park.perform(t));
    }

    private void judge(int t, int what) {
        told = "judge(" + t + ", " + what + ")";
        Object want = trayWrong(t);
        if (want.equals("")) {
            want = ARGUMENT;
            if (what >= 0 && what <= 3) {
                Garden as = g.twin();
                int done = 0;
                while (done < trays[t].length && as.whyNot(trays[t][done]) == 0) {
                    as.act(trays[t][done]);
                    done++;
                }
                boolean whole = done == trays[t].length;
                int[] all = {whole ? -1 : done, whole ? 0 : as.whyNot(trays[t][done]), as.time, as.clippings};
                want = all[what];
            }
        }
        due("", want, () -> park.judge(t, what));
    }

    private void copy(int t) {
        told = "copy(" + t + ")";
        Object want = trayWrong(t);
        if (want.equals("")) {
            int many = Math.min(trays[t].length, g.cells());
            for (int k = 0; k < many; k++) {
                trays[t][k] = g.thick[k];
            }
            want = many;
        }
        due("", want, () -> park.copy(t));
    }

    // ---- questions

    private void ask() {
        int w = some(g.walkers.size());
        int k = some(g.cells());
        told = "";
        if (noWalker(w)) {
            askOfNobody(w, k);
            return;
        }
        askOfOne(w);
        askOfTwo(w, some(g.walkers.size()));
        if (noCell(k)) {
            askOfNobody(w, k);
            return;
        }
        askWays(w, k);
        askWalls(w, k);
        askNights(w, k);
        askStrolls(w, k);
    }

    private void askOfNobody(int w, int k) {
        due("soonest", NO_SUCH, () -> park.soonest(w, k));
        due("way", NO_SUCH, () -> park.way(w, k, 0));
        due("ways", NO_SUCH, () -> park.ways(w, k));
        due("within", NO_SUCH, () -> park.within(w, k, -1));
        due("steps", NO_SUCH, () -> park.steps(w, k, -1));
        due("cleared", NO_SUCH, () -> park.cleared(w, k, -1));
        due("clipFor", NO_SUCH, () -> park.clipFor(w, k, -1, 0));
        due("shutOff", NO_SUCH, () -> park.shutOff(w, k));
        due("needed", NO_SUCH, () -> park.needed(w, k));
        due("dearest", NO_SUCH, () -> park.dearest(w, k));
        due("soonestIn", NO_SUCH, () -> park.soonestIn(w, k, -1));
        due("bestNight", NO_SUCH, () -> park.bestNight(w, k, -1));
        due("grownTo", NO_SUCH, () -> park.grownTo(w, k, -1));
        due("walks", NO_SUCH, () -> park.walks(w, k, -1));
        due("been", NO_SUCH, () -> park.been(w, k, -1));
        due("through", NO_SUCH, () -> park.through(w, k, -1, 0));
        due("tells", NO_SUCH, () -> park.tells(w, k, -1));
        if (noWalker(w)) {
            due("reach", NO_SUCH, () -> park.reach(w, -1));
            due("farthest", NO_SUCH, () -> park.farthest(w));
            due("round", NO_SUCH, () -> park.round(w, -1));
            due("bestOrder", NO_SUCH, () -> park.bestOrder(w, -1));
            due("meet", NO_SUCH, () -> park.meet(w, w, true, 0));
            due("own", NO_SUCH, () -> park.own(w));
            due("maybe", NO_SUCH, () -> park.maybe(w, -1));
        }
    }

    private void askOfOne(int w) {
        Garden.Walker walker = g.walkers.get(w);
        int[] far = g.leastFrom(walker.cell, walker.free, -1);
        int c = random.nextInt(30);
        long reach = 0;
        int farthest = walker.cell;
        long own = 0;
        for (int k = 0; k < g.cells(); k++) {
            reach |= far[k] >= 0 && far[k] <= c ? 1L << k : 0;
            if (far[k] > far[farthest] || far[k] == far[farthest] && k < farthest) {
                farthest = k;
            }
            boolean sooner = far[k] >= 0;
            int first = -1;
            for (int v = 0; v < g.walkers.size(); v++) {
                int theirs = g.least(g.walkers.get(v), k);
                sooner &= v == w || theirs < 0 || far[k] < theirs;
                if (theirs >= 0 && (first < 0 || theirs < g.least(g.walkers.get(first), k))) {
                    first = v;
                }
            }
            own |= sooner ? 1L << k : 0;
            int cell = k;
            due("first(" + k + ")", first, () -> park.first(cell));
        }
        due("reach(" + w + ", " + c + ")", reach, () -> park.reach(w, c));
        due("farthest(" + w + ")", farthest, () -> park.farthest(w));
        due("own(" + w + ")", own, () -> park.own(w));
        askRounds(w, walker);
    }

    private void askRounds(int w, Garden.Walker walker) {
        List<Integer> order = new ArrayList<>();
        for (int i = 0; i < walker.errands.size(); i++) {
            order.add(i);
        }
        int[] all = roundOf(walker, order);
        for (int what = 0; what < 3; what++) {
            int i = what;
            due("round(" + w + ", " + what + ")", all[what], () -> park.round(w, i));
        }
        due("round(" + w + ", 3)", ARGUMENT, () -> park.round(w, 3));
        List<List<Integer>> orders = new ArrayList<>();
        permute(new ArrayList<>(), order, orders);
        List<Integer> best = orders.get(0);
        for (List<Integer> one : orders) {
            int[] a = roundOf(walker, one);
            int[] b = roundOf(walker, best);
            if (a[2] < b[2] || a[2] == b[2] && a[0] < b[0]) {
                best = one;
            }
        }
        int[] done = roundOf(walker, best);
        due("bestOrder(" + w + ", 0)", done[2], () -> park.bestOrder(w, 0));
        due("bestOrder(" + w + ", 1)", done[0], () -> park.bestOrder(w, 1));
        for (int i = 0; i < 4; i++) {
            int j = i;
            due("bestOrder(" + w + ", 1" + i + ")", i < best.size() ? best.get(i) : -1, () -> park.bestOrder(w, 10 + j));
        }
        due("bestOrder(" + w + ", 14)", ARGUMENT, () -> park.bestOrder(w, 14));
    }

    private static void permute(List<Integer> head, List<Integer> rest, List<List<Integer>> found) {
        if (rest.isEmpty()) {
            found.add(head);
        }
        for (Integer i : rest) {
            List<Integer> longer = new ArrayList<>(head);
            longer.add(i);
            List<Integer> fewer = new ArrayList<>(rest);
            fewer.remove(i);
            permute(longer, fewer, found);
        }
    }

    private int[] roundOf(Garden.Walker walker, List<Integer> order) {
        int cost = 0;
        int first = -1;
        int late = 0;
        int at = walker.cell;
        boolean stuck = false;
        for (int e : order) {
            int leg = g.leastFrom(at, walker.free, -1)[walker.errands.get(e)[0]];
            stuck |= leg < 0;
            if (!stuck) {
                cost += leg;
                at = walker.errands.get(e)[0];
            }
            if (stuck || g.time + cost > walker.errands.get(e)[1]) {
                late++;
                first = first < 0 ? e : first;
            }
        }
        return new int[] {cost, first, late};
    }

    private void askOfTwo(int w, int v) {
        for (boolean fair : new boolean[] {true, false}) {
            for (int i = -1; i < 3; i++) {
                int what = i;
                Object want = noWalker(v) ? NO_SUCH : w == v || what < 0 || what > 1 ? ARGUMENT : "";
                if (want.equals("")) {
                    int cell = -1;
                    int least = -1;
                    for (int k = 0; k < g.cells(); k++) {
                        int a = g.least(g.walkers.get(w), k);
                        int b = g.least(g.walkers.get(v), k);
                        int both = fair ? Math.max(a, b) : a + b;
                        if (a >= 0 && b >= 0 && (cell < 0 || both < least)) {
                            cell = k;
                            least = both;
                        }
                    }
                    want = what == 0 ? cell : least;
                }
                due("meet(" + w + ", " + v + ", " + fair + ", " + what + ")", want, () -> park.meet(w, v, fair, what));
            }
        }
    }

    private void askWays(int w, int k) {
        Garden.Walker walker = g.walkers.get(w);
        List<int[]> all = g.kind[k] == 4 ? new ArrayList<>() : g.simpleWalks(walker.cell, k);
        int least = -1;
        int many = 0;
        int[] way = {};
        for (int[] row : all) {
            int cost = g.costOf(row, walker.free, 0);
            if (least < 0 || cost < least) {
                least = cost;
                many = 0;
                way = row;
            }
            many += cost == least ? 1 : 0;
        }
        due("soonest(" + w + ", " + k + ")", least, () -> park.soonest(w, k));
        due("ways(" + w + ", " + k + ")", many, () -> park.ways(w, k));
        for (int j = -2; j < 38; j++) {
            int i = j;
            int want = i == -1 ? way.length - 1 : i >= 0 && i < way.length ? way[i] : -1;
            due("way(" + w + ", " + k + ", " + i + ")", want, () -> park.way(w, k, i));
        }
        int c = Math.max(0, least + random.nextInt(20) - 4);
        int n = random.nextInt(12);
        int within = -1;
        int fewest = -1;
        for (int[] row : all) {
            int cost = g.costOf(row, walker.free, 0);
            within = row.length - 1 <= n && (within < 0 || cost < within) ? cost : within;
            fewest = cost <= c && (fewest < 0 || row.length - 1 < fewest) ? row.length - 1 : fewest;
        }
        int in = within;
        due("within(" + w + ", " + k + ", " + n + ")", in, () -> park.within(w, k, n));
        due("within(" + w + ", " + k + ", 99)", least, () -> park.within(w, k, 99));
        due("within(" + w + ", " + k + ", 100)", ARGUMENT, () -> park.within(w, k, 100));
        due("steps(" + w + ", " + k + ", " + c + ")", fewest, () -> park.steps(w, k, c));
        due("steps(" + w + ", " + k + ", -1)", ARGUMENT, () -> park.steps(w, k, -1));
        askCleared(w, k, all);
    }

    private void askCleared(int w, int k, List<int[]> all) {
        boolean free = g.walkers.get(w).free;
        int c = random.nextInt(25);
        int hedges = -1;
        int cost = -1;
        for (int i = 0; i <= 36; i++) {
            int m = i;
            int least = all.stream().mapToInt(row -> g.costOf(row, free, m)).min().orElse(-1);
            if (i < 5 || i > 35) {
                due("cleared(" + w + ", " + k + ", " + i + ")", least, () -> park.cleared(w, k, m));
            }
            if (hedges < 0 && least >= 0 && least <= c) {
                hedges = i;
                cost = least;
            }
        }
        due("cleared(" + w + ", " + k + ", 37)", ARGUMENT, () -> park.cleared(w, k, 37));
        due("clipFor(" + w + ", " + k + ", " + c + ", 0)", hedges, () -> park.clipFor(w, k, c, 0));
        due("clipFor(" + w + ", " + k + ", " + c + ", 1)", cost, () -> park.clipFor(w, k, c, 1));
        due("clipFor(" + w + ", " + k + ", " + c + ", 2)", ARGUMENT, () -> park.clipFor(w, k, c, 2));
        due("clipFor(" + w + ", " + k + ", -1, 0)", ARGUMENT, () -> park.clipFor(w, k, -1, 0));
    }

    private void askWalls(int w, int k) {
        Garden.Walker walker = g.walkers.get(w);
        List<int[]> all = g.kind[k] == 4 ? new ArrayList<>() : g.simpleWalks(walker.cell, k);
        long ends = 1L << walker.cell | 1L << k;
        long needed = all.isEmpty() ? 0 : -1;
        List<Long> rows = new ArrayList<>();
        for (int[] row : all) {
            long bits = 0;
            for (int c : row) {
                bits |= 1L << c;
            }
            needed &= bits;
            rows.add(bits & ~ends);
        }
        long want = needed & ~ends;
        due("needed(" + w + ", " + k + ")", want, () -> park.needed(w, k));
        int shut = 0;
        while (shut <= 4 && !hit(rows, shut, 0)) {
            shut++;
        }
        int off = shut > 4 ? -1 : shut;
        due("shutOff(" + w + ", " + k + ")", off, () -> park.shutOff(w, k));
        int base = g.least(walker, k);
        int most = base;
        int dearest = -1;
        for (int c = 0; c < g.cells(); c++) {
            if (base >= 0 && (ends >> c & 1) == 0) {
                int cost = g.leastFrom(walker.cell, walker.free, c)[k];
                cost = cost < 0 ? Integer.MAX_VALUE : cost;
                if (cost > most) {
                    most = cost;
                    dearest = c;
                }
            }
        }
        int which = dearest;
        due("dearest(" + w + ", " + k + ")", which, () -> park.dearest(w, k));
    }

    /** Whether so many cells lie on each of the walks: one of the first one's must, then of what is left. */
    private static boolean hit(List<Long> rows, int many, long walls) {
        for (long row : rows) {
            if ((row & walls) == 0) {
                for (int c = 0; c < 36; c++) {
                    if (many > 0 && (row >> c & 1) != 0 && hit(rows, many - 1, walls | 1L << c)) {
                        return true;
                    }
                }
                return false;
            }
        }
        return true;
    }

    private void askNights(int w, int k) {
        int n = random.nextInt(4) == 0 ? 99 : random.nextInt(12);
        int c = random.nextInt(60);
        Garden later = g.twin();
        int best = -1;
        int least = -1;
        int grown = -1;
        int then = -1;
        for (int i = 0; i < 100; i++) {
            int cost = later.least(later.walkers.get(w), k);
            if (i <= n && cost >= 0 && (best < 0 || cost < least)) {
                best = i;
                least = cost;
            }
            grown = grown < 0 && cost >= 0 && cost >= c ? i : grown;
            then = i == n ? cost : then;
            later.passNight();
        }
        int a = then;
        int b = best;
        int d = grown;
        due("soonestIn(" + w + ", " + k + ", " + n + ")", a, () -> park.soonestIn(w, k, n));
        due("bestNight(" + w + ", " + k + ", " + n + ")", b, () -> park.bestNight(w, k, n));
        due("grownTo(" + w + ", " + k + ", " + c + ")", d, () -> park.grownTo(w, k, c));
        due("soonestIn 100", ARGUMENT, () -> park.soonestIn(w, k, 100));
        due("bestNight 100", ARGUMENT, () -> park.bestNight(w, k, 100));
        due("grownTo -1", ARGUMENT, () -> park.grownTo(w, k, -1));
    }

    private void askStrolls(int w, int k) {
        Garden.Walker walker = g.walkers.get(w);
        int t = random.nextInt(9);
        Map<Long, Long> bySeen = new HashMap<>();
        long[] maybe = new long[1];
        stroll(walker.cell, 1L << walker.cell, t, walker.free, k, bySeen, maybe);
        long all = 0;
        long been = 0;
        long[] by = new long[g.cells()];
        for (Map.Entry<Long, Long> one : bySeen.entrySet()) {
            all += one.getValue();
            been |= one.getKey();
            for (int c = 0; c < g.cells(); c++) {
                by[c] += (one.getKey() >> c & 1) * one.getValue();
            }
        }
        int tells = -1;
        for (int c = 0; c < g.cells() && all > 0; c++) {
            if (tells < 0 || Math.min(by[c], all - by[c]) > Math.min(by[tells], all - by[tells])) {
                tells = c;
            }
        }
        String args = "(" + w + ", " + k + ", " + t + ")";
        due("walks" + args, all, () -> park.walks(w, k, t));
        due("been" + args, been, () -> park.been(w, k, t));
        int most = tells;
        due("tells" + args, most, () -> park.tells(w, k, t));
        int c = some(g.cells());
        due("through" + args + c, noCell(c) ? NO_SUCH : by[c], () -> park.through(w, k, t, c));
        due("maybe" + args, maybe[0], () -> park.maybe(w, t));
        for (int bad : new int[] {-1, 31}) {
            due("walks of " + bad, ARGUMENT, () -> park.walks(w, k, bad));
            due("been of " + bad, ARGUMENT, () -> park.been(w, k, bad));
            due("through of " + bad, ARGUMENT, () -> park.through(w, k, bad, 0));
            due("tells of " + bad, ARGUMENT, () -> park.tells(w, k, bad));
            due("maybe of " + bad, ARGUMENT, () -> park.maybe(w, bad));
        }
        long want = manyIn(walker.cell, 30, walker.free, k, new HashMap<>());
        due("walks of 30", want, () -> park.walks(w, k, 30));
    }

    private void stroll(int at, long seen, int rest, boolean free, int to, Map<Long, Long> bySeen, long[] maybe) {
        if (rest == 0) {
            maybe[0] |= 1L << at;
            if (at == to) {
                bySeen.merge(seen, 1L, Long::sum);
            }
            return;
        }
        for (int n : g.beside(at)) {
            int cost = g.cost(n, free);
            if (cost > 0 && cost <= rest) {
                stroll(n, seen | 1L << n, rest - cost, free, to, bySeen, maybe);
            }
        }
    }

    private long manyIn(int at, int rest, boolean free, int to, Map<Integer, Long> known) {
        if (rest == 0) {
            return at == to ? 1 : 0;
        }
        int key = 100 * rest + at;
        if (!known.containsKey(key)) {
            long sum = 0;
            for (int n : g.beside(at)) {
                int cost = g.cost(n, free);
                if (cost > 0 && cost <= rest) {
                    sum += manyIn(n, rest - cost, free, to, known);
                }
            }
            known.put(key, sum);
        }
        return known.get(key);
    }

    private void run(int deeds) {
        compareAll();
        ask();
        for (int i = 0; i < deeds; i++) {
            deed();
            told = "behind " + told;
            compareAll();
            if (i % 4 == 0) {
                ask();
            }
        }
    }

    public static void main(String[] args) {
        int runs = args.length > 0 ? Integer.parseInt(args[0]) : 700;
        for (int seed = 0; seed < runs; seed++) {
            new GardenTest(seed, seed % 20 == 0 ? 5 : 4).run(24);
        }
        CHECK.end("GardenTest");
    }
}
