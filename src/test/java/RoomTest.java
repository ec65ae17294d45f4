import com.sun.management.ThreadMXBean;
import java.lang.management.ManagementFactory;

/** No call makes anything: all calls of a run live in one room, which is never cleared. */
public final class RoomTest {
    private static final Check CHECK = new Check();
    private static final ThreadMXBean THREADS = (ThreadMXBean) ManagementFactory.getThreadMXBean();
    private static final String PARK = "park 6 6;wall 1 1;hedge 3 3 yew 4;hedge 4 3 box 9;hedge 1 2 beech 2;walker 0 0;"
            + "walker 5 5 free;walker 2 2;errand 0 5 5 30;errand 0 0 5 40;errand 0 5 0 50;errand 0 3 3 60;"
            + "grows near+x*y>night-thick or not[kind=2 and (x+y)*2<9];winter 4;";

    private static void useAll(HedgePark park) {
        Check.feed(park, PARK);
        park.park(PARK.length());
        for (int k = 0; k < 36; k++) {
            park.cell(k, 3);
        }
        park.walker(0, 13);
        park.hedges();
        park.thickness();
        park.walk(0, 21);
        park.clip(21, 1);
        park.plant(10, 3);
        park.nights(9);
        park.decade(5, 30);
        park.tray(0, 2, 40);
        park.write(0, 0, -1);
        park.judge(0, 0);
        park.perform(0);
        park.copy(0);
        park.undo(10);
        for (int w = 0; w < 3; w++) {
            park.round(w, 0);
            park.bestOrder(w, 0);
            park.farthest(w);
            park.own(w);
            park.reach(w, 9);
            park.maybe(w, 30);
            park.meet(w, (w + 1) % 3, w == 0, 0);
            for (int k = 0; k < 36; k += 7) {
                askOf(park, w, k);
            }
        }
        park.image(1);
        park.restore(1);
        park.count(10);
    }

    private static void askOf(HedgePark park, int w, int k) {
        park.first(k);
        park.soonest(w, k);
        park.way(w, k, 1);
        park.ways(w, k);
        park.within(w, k, 99);
        park.steps(w, k, 40);
        park.cleared(w, k, 36);
        park.clipFor(w, k, 5, 0);
        park.shutOff(w, k);
        park.needed(w, k);
        park.dearest(w, k);
        park.soonestIn(w, k, 99);
        park.bestNight(w, k, 99);
        park.grownTo(w, k, 500);
        park.walks(w, k, 30);
        park.been(w, k, 30);
        park.through(w, k, 30, 8);
        park.tells(w, k, 30);
    }

    /** How many bytes this thread makes. */
    private static long made() {
        return THREADS.getThreadAllocatedBytes(Thread.currentThread().getId());
    }

    public static void main(String[] args) {
        HedgePark park = new HedgePark();
        useAll(park);
        long before = made();
        Check.feed(park, PARK);
        park.park(PARK.length());
        long feeding = made() - before;
        before = made();
        useAll(park);
        long calls = made() - before;
        CHECK.due("calls make nothing (they made " + calls + " bytes, of which feeding " + feeding + ")",
                calls - feeding < 20000 ? 1 : 0, 1);
        before = made();
        new HedgePark();
        long object = made() - before;
        CHECK.due("an object is small (it is " + object + " bytes)", object < 100000 ? 1 : 0, 1);
        System.out.println("an object makes " + object + " bytes, its calls " + calls + " (the test's feeding " + feeding + ")");
        CHECK.end("RoomTest");
    }
}
