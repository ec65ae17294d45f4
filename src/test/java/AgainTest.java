import java.util.Random;

/**
 * What was asked ahead, and of which park, changes no answer: one object goes through many parks and sizes and is
 * asked all questions, and each time a new object that knows the latest park alone answers the same.
 */
public final class AgainTest {
    private static final Check CHECK = new Check();

    private static void same(String call, HedgePark old, HedgePark fresh, On on) {
        CHECK.due(call, Check.outcome(() -> on.answer(old)), Check.outcome(() -> on.answer(fresh)));
    }

    interface On {
        long answer(HedgePark park);
    }

    private static void ask(String text, Random random, HedgePark old, HedgePark fresh) {
        int cells = fresh.count(1) * fresh.count(2);
        for (int i = 0; i < 150; i++) {
            int w = random.nextInt(fresh.count(3) + 1);
            int v = random.nextInt(fresh.count(3) + 1);
            int k = random.nextInt(cells);
            int n = random.nextInt(32);
            String call = "question " + i + " of walker " + w + " and cell " + k + ", " + n + ", in " + text;
            On[] all = {p -> p.soonest(w, k), p -> p.way(w, k, n % 7 - 1), p -> p.ways(w, k), p -> p.within(w, k, n),
                p -> p.steps(w, k, n), p -> p.cleared(w, k, n % 5), p -> p.clipFor(w, k, n, n % 2),
                p -> p.reach(w, n), p -> p.farthest(w), p -> p.round(w, n % 3), p -> p.bestOrder(w, 10 + n % 4),
                p -> p.bestOrder(w, n % 2), p -> p.meet(w, v, n % 2 == 0, n / 2 % 2), p -> p.first(k), p -> p.own(w),
                p -> p.shutOff(w, k), p -> p.needed(w, k), p -> p.dearest(w, k), p -> p.soonestIn(w, k, n),
                p -> p.bestNight(w, k, n), p -> p.grownTo(w, k, n), p -> p.walks(w, k, n), p -> p.been(w, k, n),
                p -> p.through(w, k, n, (k + n) % cells), p -> p.tells(w, k, n), p -> p.maybe(w, n),
                p -> p.cell(k, n % 5), p -> p.walker(w, n % 24), p -> p.nights(1 + n % 3), p -> p.decade(n, 1 + n % 5),
                p -> p.walk(w, k)};
            int which = random.nextInt(all.length);
            same(which + ": " + call, old, fresh, all[which]);
        }
        CHECK.due("what is seen of " + text, Look.back(old), Look.back(fresh));
    }

    /** Each size behind each: which cells are beside which is not as it was. */
    private static void sizes() {
        HedgePark old = new HedgePark();
        for (int a = 0; a < 25; a++) {
            for (int b = 0; b < 25; b++) {
                Check.lay(old, "park " + (2 + a % 5) + " " + (2 + a / 5) + ";walker 0 0;");
                String text = "park " + (2 + b % 5) + " " + (2 + b / 5) + ";walker 0 0;walker 1 1;walker " + (1 + b % 5) + " 0;";
                Check.lay(old, text);
                HedgePark fresh = Check.of(text);
                for (int w = 0; w < 3; w++) {
                    for (int t = 0; t < 6; t++) {
                        int walker = w;
                        int quarters = t;
                        same("maybe in " + text, old, fresh, p -> p.maybe(walker, quarters));
                        same("reach in " + text, old, fresh, p -> p.reach(walker, quarters));
                    }
                }
            }
        }
    }

    public static void main(String[] args) {
        sizes();
        for (int seed = 0; seed < 60; seed++) {
            Random random = new Random(seed);
            HedgePark old = new HedgePark();
            for (int i = 0; i < 8; i++) {
                String text = Garden.random(random, 6).text();
                Check.lay(old, text);
                HedgePark fresh = new HedgePark();
                Check.lay(fresh, text);
                ask(text, random, old, fresh);
            }
        }
        CHECK.end("AgainTest");
    }
}
