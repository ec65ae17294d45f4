import java.util.ArrayList;
import java.util.List;
import java.util.Random;

/**
 * The park once more, told in the slowest and plainest way: walks are all listed, walls are all tried. Tests
 * hold the class against it. It is made at random and told as a text, so that no reading is shared.
 */
final class Garden {
    /** A part of a law that knows how it is written and what it is worth. */
    interface Part {
        String text();

        long worth(Garden g, int k);
    }

    static final class Walker {
        int cell;
        int age;
        boolean free;
        final List<int[]> errands = new ArrayList<>();

        Walker twin() {
            Walker w = new Walker();
            w.cell = cell;
            w.age = age;
            w.free = free;
            w.errands.addAll(errands);
            return w;
        }
    }

    int wide;
    int high;
    int[] kind;
    int[] thick;
    List<Walker> walkers = new ArrayList<>();
    int winter;
    Part law;
    int lines;
    int night;
    int time;
    int clippings;
    List<Garden> past = new ArrayList<>();
    private String text = "";

    int cells() {
        return wide * high;
    }

    Garden twin() {
        Garden g = new Garden();
        g.wide = wide;
        g.high = high;
        g.kind = kind.clone();
        g.thick = thick.clone();
        for (Walker w : walkers) {
            g.walkers.add(w.twin());
        }
        g.winter = winter;
        g.law = law;
        g.lines = lines;
        g.night = night;
        g.time = time;
        g.clippings = clippings;
        g.past = new ArrayList<>(past);
        g.text = text;
        return g;
    }

    String text() {
        return text;
    }

    // ---- made at random

    static Garden random(Random random, int most) {
        Garden g = new Garden();
        g.wide = 2 + random.nextInt(most - 1);
        g.high = 2 + random.nextInt(most - 1);
        g.kind = new int[g.cells()];
        g.thick = new int[g.cells()];
        StringBuilder b = new StringBuilder();
        g.line(b, random, "park", "" + g.wide, "" + g.high);
        for (int i = random.nextInt(g.cells() / 3 + 1); i > 0; i--) {
            int k = random.nextInt(g.cells());
            g.kind[k] = 4;
            g.thick[k] = 0;
            g.line(b, random, "wall", g.x(k), g.y(k));
        }
        g.someHedges(b, random);
        int many = random.nextInt(6);
        for (int i = 0; i < many; i++) {
            g.addWalker(b, random);
        }
        g.someHedges(b, random);
        for (int i = random.nextInt(7); i > 0 && !g.walkers.isEmpty(); i--) {
            g.addErrand(b, random);
        }
        for (int i = random.nextInt(3); i > 0; i--) {
            g.winter = 2 + random.nextInt(8);
            g.line(b, random, "winter", "" + g.winter);
        }
        for (int i = random.nextInt(4); i > 0; i--) {
            Part law = truth(random, 3);
            if (b.length() + law.text().length() < 850) {
                g.law = law;
                g.line(b, random, "grows", law.text());
            }
        }
        g.text = b.toString();
        return g;
    }

    private String x(int k) {
        return "" + k % wide;
    }

    private String y(int k) {
        return "" + k / wide;
    }

    private void line(StringBuilder b, Random random, String... words) {
        for (String word : words) {
            b.append(word).append(random.nextInt(9) == 0 ? "\n " : " ");
        }
        if (random.nextBoolean()) {
            b.setLength(b.length() - 1);
        }
        b.append(random.nextInt(5) == 0 ? "; " : ";");
        lines++;
    }

    private void someHedges(StringBuilder b, Random random) {
        for (int i = random.nextInt(cells() / 2 + 1); i > 0 && b.length() < 500; i--) {
            int k = random.nextInt(cells());
            kind[k] = 1 + random.nextInt(3);
            thick[k] = random.nextInt(4) == 0 ? 1 + random.nextInt(60) : 1 + random.nextInt(4);
            line(b, random, "hedge", x(k), y(k), new String[] {"box", "yew", "beech"}[kind[k] - 1], "" + thick[k]);
        }
    }

    private void addWalker(StringBuilder b, Random random) {
        int k = random.nextInt(cells());
        if (kind[k] == 4 || walkers.size() == 5) {
            return;
        }
        Walker w = new Walker();
        w.cell = k;
        w.free = random.nextInt(4) == 0;
        boolean aged = random.nextBoolean();
        w.age = aged ? random.nextInt(1000) : 0;
        walkers.add(w);
        if (w.free && aged) {
            line(b, random, "walker", x(k), y(k), "free", "age", "" + w.age);
        } else if (w.free) {
            line(b, random, "walker", x(k), y(k), "free");
        } else if (aged) {
            line(b, random, "walker", x(k), y(k), "age", "" + w.age);
        } else {
            line(b, random, "walker", x(k), y(k));
        }
    }

    private void addErrand(StringBuilder b, Random random) {
        int w = random.nextInt(walkers.size());
        int k = random.nextInt(cells());
        int by = random.nextInt(random.nextBoolean() ? 15 : 60);
        if (walkers.get(w).errands.size() < 4) {
            walkers.get(w).errands.add(new int[] {k, by});
            line(b, random, "errand", "" + w, x(k), y(k), "" + by);
        }
    }

    private static Part part(String text, java.util.function.ToLongBiFunction<Garden, Integer> worth) {
        return new Part() {
            @Override
            public String text() {
                return text;
            }

            @Override
            public long worth(Garden g, int k) {
                return worth.applyAsLong(g, k);
            }
        };
    }

    private static long kept(long v) {
        return v > 1000000 ? 1000000 : v < -1000000 ? -1000000 : v;
    }

    static Part truth(Random random, int depth) {
        Part t = both(random, depth);
        for (int i = random.nextInt(6) / 4; i > 0; i--) {
            Part a = t;
            Part b = both(random, depth);
            t = part(a.text() + " or " + b.text(), (g, k) -> a.worth(g, k) + b.worth(g, k) > 0 ? 1 : 0);
        }
        return t;
    }

    private static Part both(Random random, int depth) {
        Part t = unit(random, depth);
        for (int i = random.nextInt(6) / 4; i > 0; i--) {
            Part a = t;
            Part b = unit(random, depth);
            t = part(a.text() + " and " + b.text(), (g, k) -> a.worth(g, k) * b.worth(g, k));
        }
        return t;
    }

    private static Part unit(Random random, int depth) {
        int which = random.nextInt(6);
        if (depth > 0 && which == 0) {
            Part a = unit(random, depth - 1);
            return part("not " + a.text(), (g, k) -> 1 - a.worth(g, k));
        }
        if (depth > 0 && which == 1) {
            Part a = truth(random, depth - 1);
            return part("[" + a.text() + "]", a::worth);
        }
        Part a = sum(random, depth);
        Part b = sum(random, depth);
        switch (random.nextInt(3)) {
            case 0: return part(a.text() + "=" + b.text(), (g, k) -> a.worth(g, k) == b.worth(g, k) ? 1 : 0);
            case 1: return part(a.text() + "<" + b.text(), (g, k) -> a.worth(g, k) < b.worth(g, k) ? 1 : 0);
            default: return part(a.text() + " > " + b.text(), (g, k) -> a.worth(g, k) > b.worth(g, k) ? 1 : 0);
        }
    }

    private static Part sum(Random random, int depth) {
        Part t = term(random, depth);
        for (int i = random.nextInt(3); i > 0; i--) {
            Part a = t;
            Part b = term(random, depth);
            t = random.nextBoolean()
                    ? part(a.text() + "+" + b.text(), (g, k) -> kept(a.worth(g, k) + b.worth(g, k)))
                    : part(a.text() + " - " + b.text(), (g, k) -> kept(a.worth(g, k) - b.worth(g, k)));
        }
        return t;
    }

    private static Part term(Random random, int depth) {
        Part t = atom(random, depth);
        for (int i = random.nextInt(6) - 2; i > 0; i--) {
            Part a = t;
            Part b = atom(random, depth);
            t = part(a.text() + "*" + b.text(), (g, k) -> kept(a.worth(g, k) * b.worth(g, k)));
        }
        return t;
    }

    private static Part atom(Random random, int depth) {
        switch (random.nextInt(depth > 0 ? 9 : 8)) {
            case 0: return part("x", (g, k) -> k % g.wide);
            case 1: return part("y", (g, k) -> k / g.wide);
            case 2: return part("kind", (g, k) -> g.kind[k]);
            case 3: return part("thick", (g, k) -> g.thick[k]);
            case 4: return part("near", (g, k) -> g.near(k));
            case 5: return part("night", (g, k) -> g.night % 1000);
            case 6:
            case 7:
                int n = random.nextInt(3) == 0 ? random.nextInt(1000) : random.nextInt(5);
                return part("" + n, (g, k) -> n);
            default:
                Part a = sum(random, depth - 1);
                return part("(" + a.text() + ")", a::worth);
        }
    }

    // ---- what is told of cells

    boolean hedge(int k) {
        return kind[k] >= 1 && kind[k] <= 3;
    }

    List<Integer> beside(int k) {
        List<Integer> row = new ArrayList<>();
        for (int n = 0; n < cells(); n++) {
            if (Math.abs(n % wide - k % wide) + Math.abs(n / wide - k / wide) == 1) {
                row.add(n);
            }
        }
        return row;
    }

    int near(int k) {
        return (int) beside(k).stream().filter(this::hedge).count();
    }

    boolean isWinter() {
        return winter != 0 && night != 0 && night % winter == 0;
    }

    int cost(int k, boolean free) {
        if (kind[k] == 4) {
            return -1;
        }
        if (!hedge(k) || free) {
            return 1;
        }
        return 1 + (isWinter() ? kind[k] * thick[k] / 2 : kind[k] * thick[k]);
    }

    boolean grows(int k) {
        return hedge(k) && thick[k] < 60 && law != null && law.worth(this, k) == 1;
    }

    int walkersAt(int k) {
        int bits = 0;
        for (int w = 0; w < walkers.size(); w++) {
            bits |= walkers.get(w).cell == k ? 1 << w : 0;
        }
        return bits;
    }

    long hedgeBits() {
        long bits = 0;
        for (int k = 0; k < cells(); k++) {
            bits |= hedge(k) ? 1L << k : 0;
        }
        return bits;
    }

    int thickness() {
        int sum = 0;
        for (int t : thick) {
            sum += t;
        }
        return sum;
    }

    // ---- deeds

    int passNight() {
        Garden before = twin();
        int grown = 0;
        for (int k = 0; k < cells(); k++) {
            if (before.grows(k)) {
                thick[k]++;
                grown++;
            }
        }
        night++;
        time = 0;
        return grown;
    }

    void remember() {
        Garden old = twin();
        old.past = new ArrayList<>();
        past.add(old);
        if (past.size() > 10) {
            past.remove(0);
        }
    }

    /** The garden ahead of its n latest deeds. */
    Garden before(int n) {
        Garden old = past.get(past.size() - n).twin();
        old.past = new ArrayList<>(past.subList(0, past.size() - n));
        return old;
    }

    void clipBy(int k, int n) {
        int was = thick[k];
        thick[k] = Math.max(0, was - n);
        clippings += was - thick[k];
        if (thick[k] == 0) {
            kind[k] = 0;
        }
    }

    int whyNot(long v) {
        if (v == -1) {
            return 0;
        }
        int k = (int) Math.floorMod(v, 100L);
        if (v >= 0 && v <= 499) {
            if (v / 100 >= walkers.size() || k >= cells()) {
                return 1;
            }
            return least(walkers.get((int) v / 100), k) < 0 ? 2 : 0;
        }
        if (v >= 1000 && v <= 1099) {
            return k >= cells() ? 1 : hedge(k) ? 0 : 2;
        }
        if (v >= 2000 && v <= 2399) {
            return k >= cells() || v < 2100 ? 1 : kind[k] == 0 && walkersAt(k) == 0 ? 0 : 2;
        }
        return 1;
    }

    void act(long v) {
        int k = (int) Math.floorMod(v, 100L);
        if (v == -1) {
            passNight();
        } else if (v < 500) {
            Walker w = walkers.get((int) v / 100);
            int cost = least(w, k);
            time += cost;
            w.age += cost;
            w.cell = k;
        } else if (v < 2000) {
            clipBy(k, 1);
        } else {
            kind[k] = (int) v / 100 - 20;
            thick[k] = 1;
        }
    }

    // ---- walks

    /** The least cost by sheer patience: costs are let down till none goes lower; -1: no way. */
    int[] leastFrom(int from, boolean free, int wall) {
        int[] far = new int[cells()];
        java.util.Arrays.fill(far, -1);
        if (kind[from] == 4 || from == wall) {
            return far;
        }
        far[from] = 0;
        boolean changed = true;
        while (changed) {
            changed = false;
            for (int k = 0; k < cells(); k++) {
                int c = cost(k, free);
                for (int n : beside(k)) {
                    if (c > 0 && k != wall && far[n] >= 0 && (far[k] < 0 || far[n] + c < far[k])) {
                        far[k] = far[n] + c;
                        changed = true;
                    }
                }
            }
        }
        return far;
    }

    int least(Walker w, int k) {
        return leastFrom(w.cell, w.free, -1)[k];
    }

    /** All walks to a cell that come by none twice, the first first. */
    List<int[]> simpleWalks(int from, int to) {
        List<int[]> found = new ArrayList<>();
        List<Integer> row = new ArrayList<>();
        row.add(from);
        goOn(row, 1L << from, to, found);
        return found;
    }

    private void goOn(List<Integer> row, long seen, int to, List<int[]> found) {
        int last = row.get(row.size() - 1);
        if (last == to) {
            found.add(row.stream().mapToInt(i -> i).toArray());
            return;
        }
        for (int n : beside(last)) {
            if (kind[n] != 4 && (seen >> n & 1) == 0) {
                row.add(n);
                goOn(row, seen | 1L << n, to, found);
                row.remove(row.size() - 1);
            }
        }
    }

    /** What a row of cells costs if the m dearest hedges on it cost but 1. */
    int costOf(int[] row, boolean free, int m) {
        List<Integer> more = new ArrayList<>();
        for (int i = 1; i < row.length; i++) {
            more.add(cost(row[i], free) - 1);
        }
        more.sort((a, b) -> b - a);
        int sum = row.length - 1;
        for (int i = m; i < more.size(); i++) {
            sum += more.get(i);
        }
        return sum;
    }
}
