import java.util.ArrayList;
import java.util.HashMap;
import java.util.List;
import java.util.Map;
import java.util.Random;

/** Parks up to six by six, too wide for all their walks to be listed: ways and walls, sought by trying all. */
public final class WideTest {
    private static final Check CHECK = new Check();

    private final HedgePark park = new HedgePark();
    private final Garden g;
    private final int seed;

    private WideTest(int seed) {
        this.seed = seed;
        g = Garden.random(new Random(seed), 6);
        Check.lay(park, g.text());
    }

    private void due(String what, long got, long want) {
        CHECK.due("seed " + seed + " " + what + " in " + g.text(), got, want);
    }

    private void ask(int w, int k) {
        Garden.Walker walker = g.walkers.get(w);
        String args = "(" + w + ", " + k + ")";
        int least = g.least(walker, k);
        due("soonest" + args, park.soonest(w, k), least);
        List<Integer> way = way(walker, k);
        due("way" + args, park.way(w, k, HedgePark.NONE), way.size() - 1);
        for (int i = 0; i < way.size(); i++) {
            due("way" + args + i, park.way(w, k, i), way.get(i));
        }
        due("ways" + args, park.ways(w, k), least < 0 ? 0 : many(walker.cell, least, walker.free, k, new HashMap<>()));
        for (int n : new int[] {3, 7, 12, 36, 99}) {
            due("within" + args + n, park.within(w, k, n), byStepsAt(walker, k, n));
        }
        askWalls(w, walker, k, least);
    }

    /** At each step the least cell from where what is left is still enough. */
    private List<Integer> way(Garden.Walker walker, int k) {
        List<Integer> row = new ArrayList<>();
        int rest = g.least(walker, k);
        int at = walker.cell;
        if (rest < 0) {
            return row;
        }
        row.add(at);
        while (at != k) {
            for (int n : g.beside(at)) {
                int cost = g.cost(n, walker.free);
                if (cost > 0 && g.leastFrom(n, walker.free, -1)[k] == rest - cost) {
                    at = n;
                    rest -= cost;
                    row.add(n);
                    break;
                }
            }
        }
        return row;
    }

    private long many(int at, int rest, boolean free, int to, Map<Integer, Long> known) {
        if (at == to && rest == 0) {
            return 1;
        }
        int key = 10000 * at + rest;
        if (!known.containsKey(key)) {
            long sum = 0;
            for (int n : g.beside(at)) {
                int cost = g.cost(n, free);
                if (cost > 0 && cost <= rest) {
                    sum += many(n, rest - cost, free, to, known);
                }
            }
            known.put(key, sum);
        }
        return known.get(key);
    }

    private int byStepsAt(Garden.Walker walker, int k, int n) {
        int[] best = new int[g.cells()];
        java.util.Arrays.fill(best, -1);
        best[walker.cell] = 0;
        for (int s = 0; s < n; s++) {
            int[] next = best.clone();
            for (int c = 0; c < g.cells(); c++) {
                for (int b : g.beside(c)) {
                    int cost = g.cost(c, walker.free);
                    if (cost > 0 && best[b] >= 0 && (next[c] < 0 || best[b] + cost < next[c])) {
                        next[c] = best[b] + cost;
                    }
                }
            }
            best = next;
        }
        return best[k];
    }

    private void askWalls(int w, Garden.Walker walker, int k, int least) {
        long needed = 0;
        int most = least;
        int dearest = -1;
        for (int c = 0; c < g.cells(); c++) {
            if (least >= 0 && c != k && c != walker.cell) {
                int cost = g.leastFrom(walker.cell, walker.free, c)[k];
                needed |= cost < 0 ? 1L << c : 0;
                cost = cost < 0 ? Integer.MAX_VALUE : cost;
                if (cost > most) {
                    most = cost;
                    dearest = c;
                }
            }
        }
        due("needed(" + w + ", " + k + ")", park.needed(w, k), needed);
        due("dearest(" + w + ", " + k + ")", park.dearest(w, k), dearest);
        long open = 0;
        for (int c = 0; c < g.cells(); c++) {
            open |= g.kind[c] == 4 ? 0 : 1L << c;
        }
        int shut = -1;
        if (least < 0 || walker.cell != k && !g.beside(walker.cell).contains(k)) {
            shut = 0;
            while (shut < 4 && !canShut(open, walker.cell, k, shut, 0)) {
                shut++;
            }
        }
        due("shutOff(" + w + ", " + k + ")", park.shutOff(w, k), shut);
    }

    private boolean canShut(long open, int from, int to, int walls, int least) {
        if (walls == 0) {
            return (flood(open, from) >> to & 1) == 0;
        }
        for (int c = least; c < g.cells(); c++) {
            if (c != from && c != to && (open >> c & 1) != 0 && canShut(open & ~(1L << c), from, to, walls - 1, c + 1)) {
                return true;
            }
        }
        return false;
    }

    private final Map<Integer, Long> besides = new HashMap<>();

    private long flood(long open, int from) {
        long seen = 1L << from;
        long edge = seen;
        while (edge != 0) {
            int c = Long.numberOfTrailingZeros(edge);
            edge &= edge - 1;
            long more = besides.computeIfAbsent(c, k -> {
                long bits = 0;
                for (int n : g.beside(k)) {
                    bits |= 1L << n;
                }
                return bits;
            }) & open & ~seen;
            seen |= more;
            edge |= more;
        }
        return seen;
    }

    public static void main(String[] args) {
        int runs = args.length > 0 ? Integer.parseInt(args[0]) : 1000;
        for (int seed = 0; seed < runs; seed++) {
            WideTest test = new WideTest(seed);
            Random random = new Random(seed);
            for (int w = 0; w < test.g.walkers.size(); w++) {
                for (int i = 0; i < 3; i++) {
                    test.ask(w, random.nextInt(test.g.cells()));
                }
            }
        }
        CHECK.end("WideTest");
    }
}
