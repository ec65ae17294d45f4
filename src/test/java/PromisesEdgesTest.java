import java.util.NoSuchElementException;

/** Each sentence of promises 1 to 47 that names a bound, an end, an empty, a full or a refused thing, by its own test. */
public final class PromisesEdgesTest {
    private static final int NONE = HedgePark.NONE;
    private static final int MOST = Integer.MAX_VALUE;
    private static final int LEAST = Integer.MIN_VALUE;
    private static final Class<?> NO_SUCH = NoSuchElementException.class;
    private static final Class<?> ARGUMENT = IllegalArgumentException.class;
    private static final Class<?> STATE = IllegalStateException.class;
    private static final Class<?> INDEX = IndexOutOfBoundsException.class;
    private static final Check CHECK = new Check();
    private static final Sentences SENTENCES = new Sentences(CHECK);

    /*
     * The park of most tests, by what each cell costs who isn't free (* is a wall):
     *    1  1  4  1      0  1  2  3
     *    1  *  1  5      4  5  6  7
     *    1  1  1  1      8  9 10 11
     */
    private static final String COMMON = "park 4 3;wall 1 1;hedge 2 0 box 3;hedge 3 1 yew 2;walker 0 0;"
            + "walker 0 2 free age 10;errand 0 3 0 4;errand 0 0 1 20;grows kind=1;winter 2;";

    /** Cells 0 and 3, 2 and 5 hang together; cells 1 and 4 are walls. */
    private static final String PARTED = "park 3 2;wall 1 0;wall 1 1;walker 0 0;walker 2 1;";

    /** One walker that can't go anywhere, in the last cell. */
    private static final String SHUT_IN = "park 6 6;wall 5 4;wall 4 5;walker 5 5;";

    private static final String OPEN = "park 6 6;walker 0 0;walker 5 5;";

    private static void test(int promise, String sentence, Sentences.Body body) {
        SENTENCES.test(promise, sentence, body);
    }

    private static void due(String what, long got, long want) {
        CHECK.due(what, got, want);
    }

    /** A throw is due, and nothing that can be seen changes by it. */
    private static void refused(String what, HedgePark park, Class<?> kind, Check.Call call) {
        String look = Look.at(park);
        CHECK.throwsDue(what, kind, call);
        CHECK.due("what is seen behind " + what, Look.at(park), look);
    }

    private interface OfWalkerAndCell {
        long answer(int w, int k);
    }

    /** No such WALKER, no such CELL "(as everywhere)", of a park of two walkers and twelve cells. */
    private static void needsWalkerAndCell(HedgePark park, OfWalkerAndCell call) {
        for (int w : new int[] {LEAST, -1, 2, 5, MOST}) {
            refused("walker " + w, park, NO_SUCH, () -> call.answer(w, 0));
        }
        for (int k : new int[] {LEAST, -1, 12, 36, MOST}) {
            refused("cell " + k, park, NO_SUCH, () -> call.answer(0, k));
        }
        refused("neither", park, NO_SUCH, () -> call.answer(-1, -1));
    }

    private interface OfOne {
        long answer(int n);
    }

    private static void needsOne(HedgePark park, Class<?> kind, OfOne call, int... wrong) {
        for (int n : wrong) {
            refused("of " + n, park, kind, () -> call.answer(n));
        }
    }

    private static long laid(HedgePark park, int tray, int sort, int many) {
        park.tray(tray, sort, many);
        return 0;
    }

    private static long imaged(HedgePark park, int i) {
        park.image(i);
        return 0;
    }

    private static long restored(HedgePark park, int i) {
        park.restore(i);
        return 0;
    }

    private static void tell(HedgePark park, int tray, long... deeds) {
        park.tray(tray, 3, deeds.length);
        for (int i = 0; i < deeds.length; i++) {
            park.write(tray, i, deeds[i]);
        }
    }

    private static void feedBlanks(HedgePark park, int many) {
        for (int i = 0; i < many; i++) {
            park.feed(0x20202020, 0x20202020, 0x20202020, 0x20202020, 0x20202020);
        }
    }

    // ---- the park

    private static void newAndFeed() {
        test(1, "No CELLS; TRAYS are MISSING; an empty tape.", () -> {
            HedgePark park = new HedgePark();
            for (int what = 0; what <= 11; what++) {
                due("count(" + what + ")", park.count(what), 0);
            }
            due("hedges", park.hedges(), 0);
            due("thick", park.thickness(), 0);
            due("fault", park.fault(0), 0);
            due("place", park.fault(1), NONE);
            refused("a cell", park, NO_SUCH, () -> park.cell(0, 0));
            refused("a walker", park, NO_SUCH, () -> park.walker(0, 0));
            for (int t = 0; t < 4; t++) {
                int tray = t;
                refused("a tray", park, STATE, () -> park.write(tray, 0, 0));
            }
            refused("the tape", park, ARGUMENT, () -> park.park(1));
            due("a park of nothing", park.park(0), -12);
            due("two objects share nothing", new HedgePark().count(9) + Check.of(COMMON).count(9), 0);
        });
        test(2, "Twenty bytes come behind those on the tape, the highest of each int first: how many it has", () -> {
            HedgePark park = new HedgePark();
            due("twenty", park.feed(0x7061726b, 0x20362032, 0x3b77616c, 0x6c203520, 0x313b6865), 20);
            due("forty", park.feed(0x64676520, 0x30203020, 0x79657720, 0x36303bff, 0x80ffffff), 40);
            due("park 6 2;wall 5 1;hedge 0 0 yew 60;", park.park(35), 3);
            due("the wall", park.cell(11, 0), 4);
            due("the hedge", park.cell(0, 1), 60);
            park.feed(0x7061726b, 0x20322032, 0x3b7fff80, -1, LEAST);
            due("a byte of 127", park.park(10), -11);
            park.feed(0x7061726b, 0x20322032, 0x3bff7f80, -1, LEAST);
            due("a byte of 255", park.park(10), -11);
            due("place", park.fault(1), 9);
        });
        test(2, "NONE, and nothing changes, if there would be more than 900.", () -> {
            HedgePark park = Check.of(COMMON);
            for (int i = 1; i <= 45; i++) {
                due("feed " + i, park.feed(0x20202020, 0x20202020, 0x20202020, 0x20202020, 0x20202020), 20 * i);
            }
            String look = Look.back(park);
            due("one more", park.feed(1, 2, 3, 4, 5), NONE);
            due("and again", park.feed(LEAST, MOST, -1, 0, 1), NONE);
            CHECK.due("nothing changes", Look.back(park), look);
            due("the blanks are as they were", park.park(900), -12);
            due("no other byte came", park.fault(1), 900);
            due("an empty tape takes more", park.feed(1, 2, 3, 4, 5), 20);
        });
    }

    private static void parkAndFault() {
        test(3, "The first n bytes of the tape (which is empty then) are THE PARK, TIME, NIGHT, CLIPPINGS 0, no DEEDS", () -> {
            HedgePark park = Check.of(COMMON);
            park.nights(3);
            park.walk(0, 3);
            park.clip(2, 1);
            Check.feed(park, "park 2 2;wall 0 0;");
            due("the first nine", park.park(9), 1);
            due("walls", park.count(11), 0);
            due("tape", park.count(9), 0);
            due("night", park.count(4), 0);
            due("time", park.count(5), 0);
            due("clippings", park.count(6), 0);
            due("deeds", park.count(8), 0);
            due("hedges", park.hedges(), 0);
            due("thick", park.thickness(), 0);
            due("walkers", park.count(3), 0);
            refused("undo", park, ARGUMENT, () -> park.undo(1));
            park.nights(2);
            due("no winter, no law", park.count(10), 0);
        });
        test(3, "no DEEDS: how many LINES", () -> {
            HedgePark park = Check.of("park 6 6;wall 5 5;hedge 0 0 box 9;walker 1 0 free age 9;walker 2 0 free;errand 0 0 0 1;"
                    + "errand 1 0 0 1;grows 1=1;winter 2;");
            due("a lesser park", Check.lay(park, "park 2 2;hedge 0 0 box 1;walker 1 1;walker 0 0;"), 4);
            due("not free", park.walker(0, 2) + park.walker(1, 2), 0);
            due("no errands", park.walker(0, 3) + park.walker(1, 3), 0);
            due("no age", park.walker(0, 1), 0);
            due("no law", park.nights(2), 0);
            due("no winter", park.count(10), 0);
            due("no walls", park.count(11), 0);
            due("one hedge", park.hedges(), 1);
            due("as thick", park.thickness(), 1);
        });
        test(3, "how many LINES (park, too)", () -> {
            due("one", Check.lay(new HedgePark(), "park 2 2;"), 1);
            due("two", Check.lay(new HedgePark(), "park 2 2;winter 2;"), 2);
            due("a hundred", Check.lay(new HedgePark(), "park 2 2;" + "wall 0 0;".repeat(99)), 100);
        });
        test(3, "-10 less the FAULT (all else stays)", () -> {
            String[] texts = {"park 2 2;!", "park 2 2", "park 2 7;", "park 2 2;" + "walker 0 0;".repeat(6)};
            for (int kind = 1; kind <= 4; kind++) {
                HedgePark park = Check.of(COMMON);
                park.walk(0, 3);
                park.clip(2, 1);
                park.image(0);
                tell(park, 0, 1, 2);
                String look = Look.back(park).replaceAll("fault [-0-9]+ [-0-9]+", "");
                due("kind " + kind, Check.lay(park, texts[kind - 1]), -10 - kind);
                due("fault", park.fault(0), kind);
                CHECK.due("all else stays", Look.back(park).replaceAll("fault [-0-9]+ [-0-9]+", ""), look);
                due("the tape is empty", park.count(9), 0);
                park.restore(0);
                due("the image stays", park.count(8), 2);
            }
        });
        test(3, "IllegalArgumentException: n is below 0 or above what it has.", () -> {
            HedgePark park = Check.of(COMMON);
            needsOne(park, ARGUMENT, park::park, LEAST, -1, 1, 20, 900, MOST);
            due("as many as it has: none", park.park(0), -12);
            Check.feed(park, "park 2 2;");
            needsOne(park, ARGUMENT, park::park, LEAST, -1, 21, 900, 901, MOST);
            due("as many as it has", park.count(9), 20);
            // the tape's last bytes are zeros
            due("all of them", park.park(20), -11);
            due("place", park.fault(1), 9);
            feedBlanks(park, 45);
            needsOne(park, ARGUMENT, park::park, 901, MOST);
            due("a full tape", park.park(900), -12);
        });
        test(4, "Of the latest park() that threw nothing, what 0: the FAULT (0 without, and at first), 1: its place (NONE without).", () -> {
            HedgePark park = new HedgePark();
            due("at first", park.fault(0), 0);
            due("at first", park.fault(1), NONE);
            Check.lay(park, "park 2 2;winter 10;");
            due("a fault", park.fault(0), 3);
            due("its place", park.fault(1), 16);
            refused("a throw", park, ARGUMENT, () -> park.park(1));
            due("it stays", park.fault(0), 3);
            due("it stays", park.fault(1), 16);
            Check.lay(park, "park 2 2;winter 9;");
            due("without", park.fault(0), 0);
            due("without", park.fault(1), NONE);
            due("a fault at 0", park.park(0), -12);
            due("its place", park.fault(1), 0);
        });
        test(4, "NONE for others.", () -> {
            HedgePark park = new HedgePark();
            Check.lay(park, "park 2 7;");
            for (int what : new int[] {LEAST, -2, -1, 2, 3, MOST}) {
                due("fault(" + what + ")", park.fault(what), NONE);
            }
        });
    }

    private static void cellAndWalker() {
        test(5, "what 0: 0 path, 1 to 3 KIND, 4 wall, 1: how THICK (0), 2: what it COSTS who isn't free (NONE: a wall)", () -> {
            HedgePark park = Check.of("park 3 2;wall 0 0;hedge 1 0 box 1;hedge 2 0 yew 60;hedge 0 1 beech 60;walker 1 1 free;winter 3;");
            int[][] all = {{4, 0, NONE}, {1, 1, 2}, {2, 60, 121}, {3, 60, 181}, {0, 0, 1}, {0, 0, 1}};
            for (int k = 0; k < 6; k++) {
                for (int what = 0; what < 3; what++) {
                    due("cell(" + k + ", " + what + ")", park.cell(k, what), all[k][what]);
                }
            }
            park.nights(3);
            int[] winter = {NONE, 1, 61, 91, 1, 1};
            for (int k = 0; k < 6; k++) {
                due("in winter", park.cell(k, 2), winter[k]);
            }
        });
        test(5, "3: 1 if it would grow this NIGHT, else 0, 4: WALKERS there, as bits.", () -> {
            HedgePark park = Check.of("park 2 2;wall 0 0;hedge 1 0 box 59;hedge 0 1 yew 60;walker 1 1;walker 1 0;walker 1 1;"
                    + "walker 0 1;walker 1 1;grows night=1;");
            due("not this night", park.cell(1, 3), 0);
            park.nights(1);
            due("this night", park.cell(1, 3), 1);
            due("60 can't", park.cell(2, 3), 0);
            due("a path can't", park.cell(3, 3), 0);
            due("a wall can't", park.cell(0, 3), 0);
            int[] bits = {0, 2, 8, 21};
            for (int k = 0; k < 4; k++) {
                due("bits of " + k, park.cell(k, 4), bits[k]);
            }
        });
        test(5, "NoSuchElementException: no such CELL (as everywhere); IllegalArgumentException: another what.", () -> {
            HedgePark park = Check.of(COMMON);
            needsOne(park, NO_SUCH, k -> park.cell(k, 0), LEAST, -1, 12, 36, MOST);
            needsOne(park, NO_SUCH, k -> park.cell(k, 9), LEAST, -1, 12, 36, MOST);
            needsOne(park, ARGUMENT, what -> park.cell(11, what), LEAST, -1, 5, MOST);
            due("the last cell", park.cell(11, 0), 0);
            HedgePark full = Check.of(OPEN);
            due("the last of 36", full.cell(35, 4), 2);
            refused("36", full, NO_SUCH, () -> full.cell(36, 0));
        });
        test(6, "what 0: its CELL, 1: AGE, 2: 1 if it is free, else 0", () -> {
            HedgePark park = Check.of("park 6 6;walker 0 0;walker 5 5 free;walker 5 0 age 999;walker 0 5 free age 0;");
            int[][] all = {{0, 0, 0}, {35, 0, 1}, {5, 999, 0}, {30, 0, 1}};
            for (int w = 0; w < 4; w++) {
                for (int what = 0; what < 3; what++) {
                    due("walker(" + w + ", " + what + ")", park.walker(w, what), all[w][what]);
                }
            }
        });
        test(6, "3: how many ERRANDS, 10 + i: the CELL of its i-th, 20 + i: by which TIME (NONE: not so many).", () -> {
            HedgePark park = Check.of("park 6 6;walker 0 0;walker 1 0;walker 2 0;errand 1 5 5 999;errand 2 0 0 0;errand 2 1 0 1;"
                    + "errand 2 2 0 2;errand 2 3 0 3;");
            int[][] all = {{0, NONE, NONE, NONE, NONE}, {1, 35, NONE, NONE, NONE}, {4, 0, 1, 2, 3}};
            int[][] times = {{NONE, NONE, NONE, NONE}, {999, NONE, NONE, NONE}, {0, 1, 2, 3}};
            for (int w = 0; w < 3; w++) {
                due("how many", park.walker(w, 3), all[w][0]);
                for (int i = 0; i < 4; i++) {
                    due("cell", park.walker(w, 10 + i), all[w][1 + i]);
                    due("time", park.walker(w, 20 + i), times[w][i]);
                }
            }
        });
        test(6, "NoSuchElementException: no such WALKER (as everywhere); IllegalArgumentException: another what (10 to 13, 20 to 23).", () -> {
            HedgePark park = Check.of(COMMON);
            needsOne(park, NO_SUCH, w -> park.walker(w, 0), LEAST, -1, 2, 4, 5, MOST);
            needsOne(park, NO_SUCH, w -> park.walker(w, 99), LEAST, -1, 2, MOST);
            needsOne(park, ARGUMENT, what -> park.walker(0, what), LEAST, -1, 4, 5, 9, 14, 15, 19, 24, 30, 33, MOST);
            due("the last walker", park.walker(1, 2), 1);
            HedgePark none = Check.of("park 2 2;");
            refused("none at all", none, NO_SUCH, () -> none.walker(0, 0));
        });
        test(7, "Hedges, as bits by CELLS.", () -> {
            due("none", Check.of("park 2 2;wall 0 0;").hedges(), 0);
            StringBuilder b = new StringBuilder("park 6 6;");
            for (int k = 0; k < 36; k++) {
                b.append("hedge ").append(k % 6).append(' ').append(k / 6).append(" box 1;");
            }
            HedgePark full = Check.of(b.toString());
            due("all", full.hedges(), (1L << 36) - 1);
            full.clip(35, 1);
            due("all but the last", full.hedges(), (1L << 35) - 1);
            full.clip(31, 1);
            due("without bit 31", full.hedges(), (1L << 35) - 1 - (1L << 31));
        });
        test(8, "How THICK all hedges are together.", () -> {
            due("none", Check.of("park 2 2;wall 0 0;").thickness(), 0);
            StringBuilder b = new StringBuilder("park 6 6;");
            for (int k = 0; k < 36; k++) {
                b.append("hedge ").append(k % 6).append(' ').append(k / 6).append(" yew 60;");
            }
            HedgePark full = Check.of(b.toString());
            due("the most", full.thickness(), 36 * 60);
            full.clip(35, 60);
            due("less", full.thickness(), 35 * 60);
            Check.lay(full, "park 2 2;hedge 1 1 box 1;");
            due("of a lesser park", full.thickness(), 1);
        });
    }

    // ---- deeds

    private static void walkClipPlant() {
        test(9, "A WALK: its COST; NONE, and nothing happens: there is no WAY.", () -> {
            HedgePark park = Check.of(COMMON);
            due("the dearest", park.walk(0, 7), 10);
            due("to where it stands", park.walk(0, 7), 0);
            due("that is a deed, too", park.count(8), 2);
            String look = Look.back(park);
            due("to a wall", park.walk(0, 5), NONE);
            CHECK.due("nothing happens", Look.back(park), look);
            HedgePark parted = Check.of(PARTED);
            parted.walk(0, 3);
            look = Look.back(parted);
            for (int k : new int[] {1, 2, 4, 5}) {
                due("no way", parted.walk(0, k), NONE);
            }
            CHECK.due("nothing happens", Look.back(parted), look);
            needsWalkerAndCell(park, park::walk);
        });
        test(10, "A hedge is CLIPPED by n (1 to 60): how THICK it is then.", () -> {
            HedgePark park = Check.of("park 2 2;hedge 0 0 box 60;hedge 1 0 yew 60;hedge 0 1 beech 1;");
            due("by 1", park.clip(0, 1), 59);
            due("by 59", park.clip(0, 59), 0);
            due("by 60", park.clip(1, 60), 0);
            due("by 60 of 1", park.clip(2, 60), 0);
            due("clippings", park.count(6), 121);
            due("no hedges", park.hedges(), 0);
        });
        test(10, "IllegalStateException: there is none; IllegalArgumentException: n.", () -> {
            HedgePark park = Check.of(COMMON);
            needsOne(park, NO_SUCH, k -> park.clip(k, 0), LEAST, -1, 12, MOST);
            refused("a path", park, STATE, () -> park.clip(0, 1));
            refused("a wall", park, STATE, () -> park.clip(5, 1));
            refused("a path, by 0", park, STATE, () -> park.clip(0, 0));
            needsOne(park, ARGUMENT, n -> park.clip(2, n), LEAST, -1, 0, 61, MOST);
            park.clip(2, 3);
            refused("none any more", park, STATE, () -> park.clip(2, 1));
        });
        test(11, "A hedge is PLANTED: how many there are then.", () -> {
            HedgePark park = Check.of("park 6 6;");
            for (int k = 0; k < 36; k++) {
                due("cell " + k, park.plant(k, 1 + k % 3), k + 1);
            }
            due("all", park.hedges(), (1L << 36) - 1);
            due("as thick", park.thickness(), 36);
        });
        test(11, "IllegalArgumentException: the KIND isn't 1 to 3; IllegalStateException: it is no path, somebody stands there.", () -> {
            HedgePark park = Check.of(COMMON);
            needsOne(park, NO_SUCH, k -> park.plant(k, 0), LEAST, -1, 12, MOST);
            needsOne(park, ARGUMENT, kind -> park.plant(1, kind), LEAST, -1, 0, 4, MOST);
            refused("a kind told ahead of a wall", park, ARGUMENT, () -> park.plant(5, 4));
            refused("a wall", park, STATE, () -> park.plant(5, 1));
            refused("a hedge", park, STATE, () -> park.plant(2, 1));
            refused("the first stands there", park, STATE, () -> park.plant(0, 1));
            refused("the last stands there", park, STATE, () -> park.plant(8, 1));
            park.walk(0, 1);
            due("nobody any more", park.plant(0, 3), 3);
            refused("it came there", park, STATE, () -> park.plant(1, 1));
        });
    }

    private static void nightsAndUndo() {
        test(12, "n NIGHTS (1 to 99): by how much all hedges are THICKER together.", () -> {
            HedgePark park = Check.of("park 2 2;hedge 0 0 box 1;hedge 1 0 yew 58;hedge 0 1 beech 60;grows 1=1;");
            due("one", park.nights(1), 2);
            due("one deed", park.count(8), 1);
            due("99", park.nights(99), 59);
            due("two deeds", park.count(8), 2);
            due("night", park.count(4), 100);
            due("none", park.nights(99), 0);
            due("no cells", new HedgePark().nights(99), 0);
        });
        test(12, "IllegalArgumentException: n.", () -> {
            HedgePark park = Check.of(COMMON);
            park.walk(0, 3);
            needsOne(park, ARGUMENT, park::nights, LEAST, -1, 0, 100, MOST);
        });
        test(13, "n DEEDS are UNDONE: how many still can be.", () -> {
            HedgePark park = Check.of(COMMON);
            park.walk(0, 3);
            park.clip(2, 2);
            park.plant(1, 3);
            park.nights(2);
            due("one", park.undo(1), 3);
            due("time is again as it was", park.count(5), 6);
            due("three", park.undo(3), 0);
            due("as told", park.hedges(), 132);
            due("as told", park.thickness(), 5);
            due("as told", park.walker(0, 1), 0);
            HedgePark long1 = Check.of(COMMON);
            for (int i = 0; i < 25; i++) {
                long1.nights(1);
            }
            due("ten at once", long1.undo(10), 0);
            due("night", long1.count(4), 15);
        });
        test(13, "IllegalArgumentException: n isn't 1 to 10, there aren't so many.", () -> {
            HedgePark park = Check.of(COMMON);
            needsOne(park, ARGUMENT, park::undo, LEAST, -1, 0, 1, 10, 11, MOST);
            park.nights(1);
            park.nights(1);
            needsOne(park, ARGUMENT, park::undo, LEAST, -1, 0, 3, 10, 11, MOST);
            for (int i = 0; i < 10; i++) {
                park.nights(1);
            }
            needsOne(park, ARGUMENT, park::undo, LEAST, -1, 0, 11, 12, MOST);
            due("ten", park.undo(10), 0);
            needsOne(park, ARGUMENT, park::undo, 0, 1);
        });
    }

    private static void toldDeeds() {
        test(14, "TOLD DEEDS, judged as if done, what 0: the first place that can't be (NONE), 1: why (0), 2: TIME then, 3: CLIPPINGS then.", () -> {
            HedgePark park = Check.of(COMMON);
            park.walk(0, 1);
            park.clip(7, 1);
            tell(park, 0);
            int[] nothing = {NONE, 0, 1, 1};
            for (int what = 0; what < 4; what++) {
                due("nothing told, " + what, park.judge(0, what), nothing[what]);
            }
            tell(park, 1, 500);
            int[] atOnce = {0, 1, 1, 1};
            for (int what = 0; what < 4; what++) {
                due("the first can't be, " + what, park.judge(1, what), atOnce[what]);
            }
            long[] forty = new long[40];
            for (int i = 0; i < 40; i++) {
                forty[i] = i % 2 == 0 ? 4 : 8;
            }
            tell(park, 2, forty);
            due("forty can be", park.judge(2, 0), NONE);
            due("their time", park.judge(2, 2), 1 + 2 + 39);
            park.write(2, 39, 1000);
            due("the last can't", park.judge(2, 0), 39);
            due("why", park.judge(2, 1), 2);
            due("time till then", park.judge(2, 2), 1 + 2 + 38);
            String look = Look.back(park);
            park.judge(2, 0);
            CHECK.due("nothing is done", Look.back(park), look);
        });
        test(14, "NoSuchElementException: no such TRAY (as below); IllegalStateException: it is MISSING (as below); IllegalArgumentException: another what.", () -> {
            HedgePark park = Check.of(COMMON);
            tell(park, 3, -1);
            needsOne(park, NO_SUCH, tray -> park.judge(tray, 9), LEAST, -1, 4, MOST);
            needsOne(park, STATE, tray -> park.judge(tray, 9), 0, 1, 2);
            needsOne(park, ARGUMENT, what -> park.judge(3, what), LEAST, -1, 4, MOST);
        });
        test(15, "They are done (each a DEED), till one can't be: how many were.", () -> {
            HedgePark park = Check.of(COMMON);
            tell(park, 0);
            due("nothing told", park.perform(0), 0);
            due("no deed", park.count(8), 0);
            tell(park, 1, 500, -1);
            due("the first can't be", park.perform(1), 0);
            due("no deed", park.count(8), 0);
            tell(park, 2, -1, 1002, 5, -1);
            due("two", park.perform(2), 2);
            due("two deeds", park.count(8), 2);
            due("one undone", park.undo(1), 1);
            due("clippings", park.count(6), 0);
            due("night", park.count(4), 1);
            long[] forty = new long[40];
            java.util.Arrays.fill(forty, -1);
            tell(park, 3, forty);
            due("forty", park.perform(3), 40);
            due("ten deeds", park.count(8), 10);
            due("night", park.count(4), 41);
            needsOne(park, NO_SUCH, park::perform, LEAST, -1, 4, MOST);
            HedgePark missing = new HedgePark();
            needsOne(missing, STATE, missing::perform, 0, 1, 2, 3);
        });
        test(16, "A DECADE (each a DEED): how many could be. IllegalArgumentException: how many times; IllegalStateException: no CELLS.", () -> {
            HedgePark park = Check.of(COMMON);
            needsOne(park, ARGUMENT, times -> park.decade(1, times), LEAST, -1, 0, 31, MOST);
            int done = park.decade(99, 1);
            due("deeds", park.count(8), done);
            int more = park.decade(99, 9);
            due("deeds", park.count(8), Math.min(10, done + more));
            park.decade(99, 30);
            due("ten deeds", park.count(8), 10);
            HedgePark none = new HedgePark();
            needsOne(none, ARGUMENT, times -> none.decade(1, times), LEAST, -1, 0, 31, MOST);
            needsOne(none, STATE, times -> none.decade(1, times), 1, 30);
            due("the least park", Check.of("park 2 2;").decade(LEAST, 30) >= 0 ? 1 : 0, 1);
        });
    }

    // ---- ways

    private static void soonestToWithin() {
        test(17, "The COST of a WAY; NONE: there is none.", () -> {
            HedgePark park = Check.of(COMMON);
            due("where it stands", park.soonest(0, 0), 0);
            due("a wall", park.soonest(0, 5), NONE);
            due("parted", Check.of(PARTED).soonest(0, 2), NONE);
            due("shut in", Check.of(SHUT_IN).soonest(0, 0), NONE);
            due("shut in, where it stands", Check.of(SHUT_IN).soonest(0, 35), 0);
            due("from corner to corner", Check.of(OPEN).soonest(0, 35), 10);
            needsWalkerAndCell(park, park::soonest);
        });
        test(18, "How many steps a WAY has (i NONE), else the CELL behind its i-th step (0: where it begins); NONE: there is none, not so many.", () -> {
            HedgePark park = Check.of(COMMON);
            due("steps", park.way(0, 7, NONE), 6);
            int[] row = {0, 4, 8, 9, 10, 6, 7};
            for (int i = 0; i < row.length; i++) {
                due("step " + i, park.way(0, 7, i), row[i]);
            }
            for (int i : new int[] {LEAST, -2, 7, 36, 37, MOST}) {
                due("step " + i, park.way(0, 7, i), NONE);
            }
            for (int i : new int[] {LEAST, NONE, 0, 1, MOST}) {
                due("no way", park.way(0, 5, i), NONE);
            }
            // a walk that turns through a park's rows: the most steps a way can have here
            HedgePark snake = Check.of("park 6 6;wall 0 1;wall 1 1;wall 2 1;wall 3 1;wall 4 1;wall 1 3;wall 2 3;wall 3 3;"
                    + "wall 4 3;wall 5 3;wall 0 5;wall 1 5;wall 2 5;wall 3 5;wall 4 5;walker 0 0;");
            due("steps", snake.way(0, 35, NONE), 20);
            due("the last", snake.way(0, 35, 20), 35);
            due("none behind it", snake.way(0, 35, 21), NONE);
            needsWalkerAndCell(park, (w, k) -> park.way(w, k, 0));
        });
        test(19, "How many walks have so little COST as a WAY (0: there is none).", () -> {
            HedgePark park = Check.of(COMMON);
            due("where it stands", park.ways(0, 0), 1);
            due("one", park.ways(0, 1), 1);
            due("a wall", park.ways(0, 5), 0);
            due("parted", Check.of(PARTED).ways(0, 5), 0);
            due("the most", Check.of(OPEN).ways(0, 35), 252);
            due("back, too", Check.of(OPEN).ways(1, 0), 252);
            needsWalkerAndCell(park, park::ways);
        });
        test(20, "The least COST by at most n steps (0 to 99); NONE: it can't be. IllegalArgumentException: n.", () -> {
            HedgePark park = Check.of(OPEN);
            due("0 where it stands", park.within(0, 0, 0), 0);
            due("0 elsewhere", park.within(0, 1, 0), NONE);
            due("9 of 10", park.within(0, 35, 9), NONE);
            due("10 of 10", park.within(0, 35, 10), 10);
            due("99", park.within(0, 35, 99), 10);
            due("to the first cell", park.within(1, 0, 10), 10);
            due("not so few", park.within(1, 0, 9), NONE);
            due("no way", Check.of(PARTED).within(0, 2, 99), NONE);
            HedgePark common = Check.of(COMMON);
            due("a wall", common.within(0, 5, 99), NONE);
            needsOne(common, ARGUMENT, n -> common.within(0, 3, n), LEAST, -1, 100, MOST);
            needsWalkerAndCell(common, (w, k) -> common.within(w, k, 100));
        });
        test(21, "The fewest steps of those that COST at most c; NONE: it can't be. IllegalArgumentException: c is below 0.", () -> {
            HedgePark park = Check.of(COMMON);
            due("for 0 where it stands", park.steps(0, 0, 0), 0);
            due("for 0 elsewhere", park.steps(0, 1, 0), NONE);
            due("for 9 of 10", park.steps(0, 7, 9), NONE);
            due("for 10", park.steps(0, 7, 10), 6);
            due("for 11", park.steps(0, 7, 11), 4);
            due("for any", park.steps(0, 7, MOST), 4);
            due("a wall", park.steps(0, 5, MOST), NONE);
            due("no way", Check.of(PARTED).steps(0, 2, MOST), NONE);
            needsOne(park, ARGUMENT, c -> park.steps(0, 7, c), LEAST, -1);
            needsWalkerAndCell(park, (w, k) -> park.steps(w, k, -1));
        });
    }

    private static void clearedToFarthest() {
        test(22, "CLEARED m (0 to 36): the COST; NONE: there is no WAY. IllegalArgumentException: m.", () -> {
            HedgePark park = Check.of(COMMON);
            due("none", park.cleared(0, 7, 0), 10);
            due("one", park.cleared(0, 7, 1), 6);
            due("two", park.cleared(0, 7, 2), 4);
            due("36", park.cleared(0, 7, 36), 4);
            HedgePark ends = Check.of("park 2 2;hedge 0 0 beech 9;hedge 1 1 yew 9;wall 0 1;walker 1 0;");
            due("the first cell", ends.cleared(0, 0, 1), 1);
            due("the last cell", ends.cleared(0, 3, 1), 1);
            due("the last cell, none", ends.cleared(0, 3, 0), 19);
            due("a wall", park.cleared(0, 5, 36), NONE);
            due("no way", Check.of(PARTED).cleared(0, 2, 36), NONE);
            needsOne(park, ARGUMENT, m -> park.cleared(0, 7, m), LEAST, -1, 37, MOST);
            needsWalkerAndCell(park, (w, k) -> park.cleared(w, k, 37));
        });
        test(23, "what 0: how many hedges, 1: what it COSTS then at least; NONE: not by any. IllegalArgumentException: c is below 0, another what.", () -> {
            HedgePark park = Check.of(COMMON);
            int[][] row = {{MOST, 0, 10}, {10, 0, 10}, {9, 1, 6}, {6, 1, 6}, {5, 2, 4}, {4, 2, 4}, {3, NONE, NONE},
                {0, NONE, NONE}};
            for (int[] one : row) {
                due("for " + one[0], park.clipFor(0, 7, one[0], 0), one[1]);
                due("cost for " + one[0], park.clipFor(0, 7, one[0], 1), one[2]);
            }
            due("where it stands, for 0", park.clipFor(0, 0, 0, 0), 0);
            due("a wall", park.clipFor(0, 5, MOST, 1), NONE);
            needsOne(park, ARGUMENT, c -> park.clipFor(0, 7, c, 0), LEAST, -1);
            needsOne(park, ARGUMENT, what -> park.clipFor(0, 7, 9, what), LEAST, -1, 2, MOST);
            needsWalkerAndCell(park, (w, k) -> park.clipFor(w, k, -1, 2));
        });
        test(24, "CELLS a WALKER can come to for at most c, as bits. IllegalArgumentException: c is below 0.", () -> {
            HedgePark park = Check.of(COMMON);
            due("for 0", park.reach(0, 0), 1);
            due("for 9", park.reach(0, 9), 0xfff & ~(1 << 5) & ~(1 << 7));
            due("for 10", park.reach(0, 10), 0xfff & ~(1 << 5));
            due("for any", park.reach(0, MOST), 0xfff & ~(1 << 5));
            due("shut in", Check.of(SHUT_IN).reach(0, MOST), 1L << 35);
            due("all", Check.of(OPEN).reach(0, 10), (1L << 36) - 1);
            due("all but one", Check.of(OPEN).reach(0, 9), (1L << 35) - 1);
            needsOne(park, ARGUMENT, c -> park.reach(0, c), LEAST, -1);
            needsOne(park, NO_SUCH, w -> park.reach(w, -1), LEAST, -1, 2, MOST);
        });
        test(25, "The CELL a WALKER comes to last of all it can, by its WAY, the first.", () -> {
            due("the other corner", Check.of(OPEN).farthest(0), 35);
            due("the first cell", Check.of(OPEN).farthest(1), 0);
            due("of four the first", Check.of("park 3 3;walker 1 1;").farthest(0), 0);
            due("of two the first", Check.of("park 2 2;wall 1 1;walker 0 0;").farthest(0), 1);
            due("shut in: where it stands", Check.of(SHUT_IN).farthest(0), 35);
            due("of those it can", Check.of(PARTED).farthest(1), 2);
            HedgePark park = Check.of(COMMON);
            needsOne(park, NO_SUCH, park::farthest, LEAST, -1, 2, MOST);
        });
    }

    // ---- errands

    private static void errands() {
        test(26, "what 0: COST, 1: the first ERRAND that is LATE (NONE), 2: how many are.", () -> {
            HedgePark none = Check.of(OPEN);
            int[] empty = {0, NONE, 0};
            HedgePark four = Check.of("park 2 2;walker 0 0;errand 0 1 0 1;errand 0 1 1 2;errand 0 0 1 3;errand 0 0 0 4;");
            int[] inTime = {4, NONE, 0};
            HedgePark late = Check.of("park 2 2;walker 0 0;errand 0 1 0 1;errand 0 1 1 1;errand 0 0 1 3;errand 0 0 0 0;");
            int[] two = {4, 1, 2};
            for (int what = 0; what < 3; what++) {
                due("none, " + what, none.round(0, what), empty[what]);
                due("in time, " + what, four.round(0, what), inTime[what]);
                due("two late, " + what, late.round(0, what), two[what]);
            }
        });
        test(26, "(From the first one to which there is no WAY on all are LATE, COST is as far as it goes.) IllegalArgumentException: another what.", () -> {
            HedgePark park = Check.of(PARTED + "errand 0 0 1 99;errand 0 2 0 99;errand 0 0 0 99;errand 0 0 1 99;"
                    + "errand 1 1 0 99;errand 1 2 1 99;");
            int[][] all = {{1, 1, 3}, {0, 0, 2}};
            for (int w = 0; w < 2; w++) {
                for (int what = 0; what < 3; what++) {
                    due("round(" + w + ", " + what + ")", park.round(w, what), all[w][what]);
                }
            }
            // one that is late ahead of it is the first
            HedgePark late = Check.of(PARTED + "errand 0 0 1 0;errand 0 2 0 99;");
            due("the first", late.round(0, 1), 0);
            due("both", late.round(0, 2), 2);
            needsOne(park, ARGUMENT, what -> park.round(0, what), LEAST, -1, 3, MOST);
            needsOne(park, NO_SUCH, w -> park.round(w, 3), LEAST, -1, 2, MOST);
        });
        test(27, "what 0: how many are LATE, 1: COST, 10 + i: the i-th ERRAND of it (NONE: not so many). IllegalArgumentException: another what (10 to 13).", () -> {
            HedgePark none = Check.of(OPEN);
            due("none late", none.bestOrder(0, 0), 0);
            due("no cost", none.bestOrder(0, 1), 0);
            for (int i = 0; i < 4; i++) {
                due("no errand", none.bestOrder(0, 10 + i), NONE);
            }
            HedgePark one = Check.of(OPEN + "errand 1 4 5 0;");
            due("one late", one.bestOrder(1, 0), 1);
            due("its cost", one.bestOrder(1, 1), 1);
            due("it", one.bestOrder(1, 10), 0);
            due("no other", one.bestOrder(1, 11), NONE);
            // told backwards along a row, and due so that just that order is in time
            HedgePark four = Check.of("park 6 2;walker 0 0;errand 0 4 0 4;errand 0 3 0 3;errand 0 2 0 2;errand 0 1 0 1;");
            due("none late", four.bestOrder(0, 0), 0);
            due("cost", four.bestOrder(0, 1), 4);
            for (int i = 0; i < 4; i++) {
                due("backwards", four.bestOrder(0, 10 + i), 3 - i);
            }
            due("the round is in order as told still", four.round(0, 2), 3);
            due("its cost", four.round(0, 0), 7);
            needsOne(four, ARGUMENT, what -> four.bestOrder(0, what), LEAST, -1, 2, 3, 9, 14, 20, MOST);
            needsOne(four, NO_SUCH, w -> four.bestOrder(w, 2), LEAST, -1, 1, MOST);
        });
        test(28, "what 0: the CELL, 1: what is least; NONE: they can't. IllegalArgumentException: both one, another what.", () -> {
            HedgePark park = Check.of(COMMON);
            HedgePark parted = Check.of(PARTED);
            for (boolean fair : new boolean[] {true, false}) {
                due("they can't", parted.meet(0, 1, fair, 0), NONE);
                due("they can't", parted.meet(1, 0, fair, 1), NONE);
                needsOne(park, ARGUMENT, what -> park.meet(0, 1, fair, what), LEAST, -1, 2, MOST);
                needsOne(park, ARGUMENT, w -> park.meet(w, w, fair, 0), 0, 1);
                needsOne(park, NO_SUCH, w -> park.meet(w, w, fair, 9), LEAST, -1, 2, MOST);
                needsOne(park, NO_SUCH, w -> park.meet(w, 0, fair, 9), LEAST, -1, 2, MOST);
                needsOne(park, NO_SUCH, v -> park.meet(0, v, fair, 9), LEAST, -1, 2, MOST);
            }
            HedgePark open = Check.of(OPEN);
            due("fair", open.meet(0, 1, true, 1), 5);
            due("the first of six", open.meet(0, 1, true, 0), 5);
            due("cheap", open.meet(0, 1, false, 1), 10);
            due("the first of all", open.meet(1, 0, false, 0), 0);
            HedgePark one = Check.of("park 2 2;wall 0 0;walker 1 1;walker 1 1;");
            due("on one cell", one.meet(0, 1, true, 0), 3);
            due("for nothing", one.meet(0, 1, true, 1), 0);
        });
        test(29, "The WALKER that comes to a CELL soonest, the first; NONE: none can.", () -> {
            HedgePark park = Check.of("park 3 2;wall 2 1;walker 0 0;walker 1 1;walker 0 0;walker 2 0;walker 1 1 free;");
            int[] who = {0, 0, 3, 0, 1, NONE};
            for (int k = 0; k < 6; k++) {
                due("cell " + k, park.first(k), who[k]);
            }
            HedgePark nobody = Check.of("park 2 2;");
            due("nobody", nobody.first(3), NONE);
            due("to where none can", Check.of(SHUT_IN).first(0), NONE);
            needsOne(nobody, NO_SUCH, nobody::first, LEAST, -1, 4, MOST);
        });
        test(30, "CELLS to which a WALKER comes sooner than all others, as bits.", () -> {
            due("alone: all it can", Check.of(SHUT_IN).own(0), 1L << 35);
            due("alone: all", Check.of("park 6 6;walker 0 0;").own(0), (1L << 36) - 1);
            HedgePark two = Check.of("park 3 2;walker 0 0;walker 2 0;");
            due("the left", two.own(0), 1 | 1 << 3);
            due("the right", two.own(1), 1 << 2 | 1 << 5);
            HedgePark like = Check.of("park 2 2;walker 0 0;walker 0 0;");
            due("none sooner", like.own(0), 0);
            due("where the others can't", Check.of(PARTED).own(0), 1 | 1 << 3);
            needsOne(two, NO_SUCH, two::own, LEAST, -1, 2, MOST);
        });
    }

    // ---- walls, nights

    private static void walls() {
        test(31, "SHUT OFF: how many; NONE: not by any; 0: there is no WAY.", () -> {
            HedgePark park = Check.of(COMMON);
            due("beside in x", park.shutOff(0, 1), NONE);
            due("beside in y", park.shutOff(0, 4), NONE);
            due("one", park.shutOff(0, 0), NONE);
            due("a wall", park.shutOff(0, 5), 0);
            due("parted", Check.of(PARTED).shutOff(0, 2), 0);
            due("a wall beside: there is no way already", Check.of(PARTED).shutOff(0, 1), 0);
            due("shut in", Check.of(SHUT_IN).shutOff(0, 0), 0);
            due("shut in, where it stands", Check.of(SHUT_IN).shutOff(0, 35), NONE);
            due("one alone", Check.of("park 3 2;wall 1 1;walker 0 0;").shutOff(0, 2), 1);
            due("four", Check.of("park 6 6;walker 1 1;").shutOff(0, 28), 4);
            due("hedges are no walls", Check.of("park 3 2;hedge 1 0 beech 60;walker 0 0;").shutOff(0, 2), 2);
            needsWalkerAndCell(park, park::shutOff);
        });
        test(32, "NEEDED, as bits (0 too, if there is no WAY).", () -> {
            HedgePark park = Check.of(COMMON);
            due("a wall", park.needed(0, 5), 0);
            due("parted", Check.of(PARTED).needed(0, 2), 0);
            due("none", park.needed(0, 3), 0);
            due("where it stands", park.needed(0, 0), 0);
            due("above bit 31", Check.of("park 6 6;wall 5 4;walker 0 0;").needed(0, 35), 1L << 34);
            due("the first cell", Check.of("park 2 2;wall 1 1;walker 1 0;").needed(0, 2), 1);
            due("the last cell", Check.of("park 2 2;wall 0 0;walker 1 0;").needed(0, 2), 1 << 3);
            due("not what the others need", Check.of("park 6 6;wall 5 4;walker 0 0;").needed(0, 33), 0);
            needsWalkerAndCell(park, park::needed);
        });
        test(33, "The CELL that, made a wall alone (no end), makes a WAY COST most more (none left: the most of all), the first; NONE: none makes it more.", () -> {
            due("none", Check.of(OPEN).dearest(0, 35), NONE);
            due("none between", Check.of(OPEN).dearest(0, 1), NONE);
            due("where it stands", Check.of(OPEN).dearest(0, 0), NONE);
            due("no way", Check.of(PARTED).dearest(0, 2), NONE);
            // without 1 one goes round for 5, without 2 there is none left
            HedgePark most = Check.of("park 4 2;wall 3 1;walker 0 0;");
            due("none left", most.dearest(0, 3), 2);
            HedgePark two = Check.of("park 5 2;wall 1 1;wall 3 1;walker 0 0;");
            due("of several the first", two.dearest(0, 4), 1);
            due("the first cell", Check.of("park 2 2;wall 1 1;walker 1 0;").dearest(0, 2), 0);
            due("the last cell", Check.of("park 2 2;wall 0 0;walker 1 0;").dearest(0, 2), 3);
            HedgePark one = Check.of("park 3 2;walker 0 0;");
            due("the only one", one.dearest(0, 2), 1);
            // without 1 or without 2 one goes round for 5
            HedgePark like = Check.of("park 4 2;walker 0 0;");
            due("of like ones the first", like.dearest(0, 3), 1);
            HedgePark park = Check.of(COMMON);
            needsWalkerAndCell(park, park::dearest);
        });
    }

    private static void nightsToCome() {
        test(34, "The COST of a WAY n NIGHTS (0 to 99) from now; NONE. IllegalArgumentException: n.", () -> {
            HedgePark park = Check.of("park 2 2;wall 0 1;hedge 1 0 box 1;walker 0 0;grows 1=1;");
            due("in 0", park.soonestIn(0, 1, 0), 2);
            due("in 1", park.soonestIn(0, 1, 1), 3);
            due("in 58", park.soonestIn(0, 1, 58), 60);
            due("in 59", park.soonestIn(0, 1, 59), 61);
            due("in 60", park.soonestIn(0, 1, 60), 61);
            due("in 99", park.soonestIn(0, 1, 99), 61);
            due("where it stands", park.soonestIn(0, 0, 99), 0);
            due("a wall", park.soonestIn(0, 2, 99), NONE);
            due("no way", Check.of(PARTED).soonestIn(0, 2, 0), NONE);
            HedgePark common = Check.of(COMMON);
            needsOne(common, ARGUMENT, n -> common.soonestIn(0, 3, n), LEAST, -1, 100, MOST);
            needsWalkerAndCell(common, (w, k) -> common.soonestIn(w, k, 100));
        });
        test(35, "In how many NIGHTS (0 to n, n to 99) a WAY COSTS least, the first; NONE: there is none. IllegalArgumentException: n.", () -> {
            HedgePark grows = Check.of("park 2 2;wall 0 1;hedge 1 0 box 9;walker 0 0;grows 1=1;winter 9;");
            due("0 of 0", grows.bestNight(0, 1, 0), 0);
            due("0 of 8", grows.bestNight(0, 1, 8), 0);
            due("9 of 9: half of 18", grows.bestNight(0, 1, 9), 0);
            grows.nights(1);
            due("8 of 8: half of 18", grows.bestNight(0, 1, 8), 8);
            due("0 of 7", grows.bestNight(0, 1, 7), 0);
            due("8 of 99", grows.bestNight(0, 1, 99), 8);
            HedgePark late = Check.of("park 2 2;wall 0 1;hedge 1 0 box 60;walker 0 0;winter 9;");
            for (int i = 0; i < 9; i++) {
                late.nights(1);
            }
            due("the first of like ones", late.bestNight(0, 1, 99), 0);
            late.nights(1);
            due("in 8", late.bestNight(0, 1, 99), 8);
            due("where it stands", late.bestNight(0, 0, 99), 0);
            due("a wall", late.bestNight(0, 2, 99), NONE);
            HedgePark common = Check.of(COMMON);
            needsOne(common, ARGUMENT, n -> common.bestNight(0, 3, n), LEAST, -1, 100, MOST);
            needsWalkerAndCell(common, (w, k) -> common.bestNight(w, k, 100));
        });
        test(36, "In how many NIGHTS (0 to 99) a WAY first COSTS c or more; NONE: not by then, there is none. IllegalArgumentException: c is below 0.", () -> {
            HedgePark park = Check.of("park 2 2;wall 0 1;hedge 1 0 box 1;walker 0 0;grows night>39;");
            due("for 0", park.grownTo(0, 1, 0), 0);
            due("for 2", park.grownTo(0, 1, 2), 0);
            due("for 3", park.grownTo(0, 1, 3), 41);
            due("for 61", park.grownTo(0, 1, 61), 99);
            due("for 62", park.grownTo(0, 1, 62), NONE);
            due("for any", park.grownTo(0, 1, MOST), NONE);
            HedgePark later = Check.of("park 2 2;wall 0 1;hedge 1 0 box 1;walker 0 0;grows night>40;");
            due("not by the 99th", later.grownTo(0, 1, 61), NONE);
            due("by the 99th", later.grownTo(0, 1, 60), 99);
            due("where it stands, for 0", park.grownTo(0, 0, 0), 0);
            due("where it stands, for 1", park.grownTo(0, 0, 1), NONE);
            due("there is none", park.grownTo(0, 2, 0), NONE);
            HedgePark common = Check.of(COMMON);
            needsOne(common, ARGUMENT, c -> common.grownTo(0, 3, c), LEAST, -1);
            needsWalkerAndCell(common, (w, k) -> common.grownTo(w, k, -1));
        });
    }

    // ---- walks that took so long

    private static void strolls() {
        test(37, "How many WALKS took just t. IllegalArgumentException: t (as below).", () -> {
            HedgePark park = Check.of(COMMON);
            due("0", park.walks(0, 0, 0), 1);
            due("0 elsewhere", park.walks(0, 1, 0), 0);
            due("a wall", park.walks(0, 5, 30), 0);
            due("parted", Check.of(PARTED).walks(0, 2, 30), 0);
            due("shut in, 0", Check.of(SHUT_IN).walks(0, 35, 0), 1);
            due("shut in, 30", Check.of(SHUT_IN).walks(0, 35, 30), 0);
            due("30 between two cells", Check.of(PARTED).walks(0, 0, 30), 1);
            due("29 between two cells", Check.of(PARTED).walks(0, 3, 29), 1);
            needsOne(park, ARGUMENT, t -> park.walks(0, 0, t), LEAST, -1, 31, MOST);
            needsWalkerAndCell(park, (w, k) -> park.walks(w, k, 31));
        });
        test(38, "BEEN, as bits.", () -> {
            HedgePark park = Check.of(COMMON);
            due("0", park.been(0, 0, 0), 1);
            due("0 elsewhere", park.been(0, 1, 0), 0);
            due("a wall", park.been(0, 5, 30), 0);
            due("30 between two cells", Check.of(PARTED).been(0, 0, 30), 1 | 1 << 3);
            due("just there", Check.of(OPEN).been(1, 35, 2), 1L << 35 | 1L << 34 | 1L << 29);
            due("all", Check.of(OPEN).been(0, 35, 30), (1L << 36) - 1);
            needsOne(park, ARGUMENT, t -> park.been(0, 0, t), LEAST, -1, 31, MOST);
            needsWalkerAndCell(park, (w, k) -> park.been(w, k, 31));
        });
        test(39, "THROUGH a CELL.", () -> {
            HedgePark park = Check.of(COMMON);
            due("where it stands, 0", park.through(0, 0, 0, 0), 1);
            due("another, 0", park.through(0, 0, 0, 1), 0);
            due("by a wall", park.through(0, 0, 30, 5), 0);
            due("none at all", park.through(0, 5, 30, 0), 0);
            due("30 between two cells", Check.of(PARTED).through(0, 0, 30, 3), 1);
            due("by the other part", Check.of(PARTED).through(0, 0, 30, 2), 0);
            HedgePark two = Check.of("park 2 2;walker 0 0;");
            due("an end", two.through(0, 0, 30, 0), 1L << 29);
            // who never sees 1 is on 2 each other time, and fourteen times on 0 or 3 between
            due("by one of two", two.through(0, 0, 30, 1), (1L << 29) - (1L << 14));
            needsOne(park, ARGUMENT, t -> park.through(0, 0, t, 0), LEAST, -1, 31, MOST);
            needsOne(park, NO_SUCH, cell -> park.through(0, 0, 31, cell), LEAST, -1, 12, MOST);
            needsWalkerAndCell(park, (w, k) -> park.through(w, k, 31, 0));
        });
        test(40, "TELLS MOST; NONE: no such WALKS.", () -> {
            HedgePark park = Check.of(COMMON);
            due("none", park.tells(0, 0, 1), NONE);
            due("a wall", park.tells(0, 5, 30), NONE);
            due("parted", Check.of(PARTED).tells(0, 2, 30), NONE);
            due("of two like ones the first", park.tells(0, 0, 2), 1);
            due("above 31", Check.of(OPEN).tells(1, 35, 2), 29);
            needsOne(park, ARGUMENT, t -> park.tells(0, 0, t), LEAST, -1, 31, MOST);
            needsWalkerAndCell(park, (w, k) -> park.tells(w, k, 31));
        });
        test(41, "CELLS where a WALKER may be behind just t (0 to 30), as bits.", () -> {
            HedgePark park = Check.of(OPEN);
            long even = 0;
            for (int k = 0; k < 36; k++) {
                even |= (k / 6 + k % 6) % 2 == 0 ? 1L << k : 0;
            }
            due("0", park.maybe(0, 0), 1);
            due("1", park.maybe(1, 1), 1L << 34 | 1L << 29);
            due("30", park.maybe(0, 30), even);
            due("29", park.maybe(0, 29), (1L << 36) - 1 - even);
            due("9", park.maybe(0, 9), (1L << 36) - 1 - even);
            due("8", park.maybe(0, 8), even & ~(1L << 35));
            due("shut in, 0", Check.of(SHUT_IN).maybe(0, 0), 1L << 35);
            due("shut in, 30", Check.of(SHUT_IN).maybe(0, 30), 0);
            needsOne(park, ARGUMENT, t -> park.maybe(0, t), LEAST, -1, 31, MOST);
            needsOne(park, NO_SUCH, w -> park.maybe(w, 31), LEAST, -1, 2, MOST);
        });
    }

    // ---- trays, images

    private static void trays() {
        test(42, "A TRAY is a row of so many 0s. NoSuchElementException: no such TRAY; IllegalArgumentException: no such sort, or not so many.", () -> {
            HedgePark park = Check.of("park 2 2;walker 1 1;");
            park.walk(0, 2);
            for (int t = 0; t < 4; t++) {
                for (int sort = 0; sort < 4; sort++) {
                    park.tray(t, sort, 40);
                    for (int i = 0; i < 40; i++) {
                        park.write(t, i, -1);
                    }
                    park.tray(t, sort, 40);
                    // zeros are walks of walker 0 to cell 0, a night would set the time back
                    due("forty 0s", park.judge(t, 0), NONE);
                    due("no nights", park.judge(t, 2), 2);
                    park.tray(t, sort, 0);
                    int tray = t;
                    refused("no places", park, INDEX, () -> park.write(tray, 0, 1));
                }
            }
            tell(park, 0, -1, 3);
            String look = Look.at(park);
            needsOne(park, NO_SUCH, tray -> laid(park, tray, 9, 99), LEAST, -1, 4, MOST);
            needsOne(park, ARGUMENT, sort -> laid(park, 0, sort, 1), LEAST, -1, 4, MOST);
            needsOne(park, ARGUMENT, many -> laid(park, 0, 0, many), LEAST, -1, 41, MOST);
            CHECK.due("it stays", Look.at(park), look);
        });
        test(43, "A number comes to a place of a TRAY, cut to its sort: as it is there.", () -> {
            HedgePark park = Check.of(COMMON);
            long v = 0x0123456789abcdefL;
            long[] cut = {(byte) 0xef, (short) 0xcdef, 0x89abcdef, v};
            for (int sort = 0; sort < 4; sort++) {
                park.tray(0, sort, 40);
                due("the first place", park.write(0, 0, v), cut[sort]);
                due("the last place", park.write(0, 39, -v), sort == 3 ? -v : -cut[sort]);
                due("a night", park.write(0, 0, -1), -1);
                due("it is told there", park.judge(0, 0), 39);
            }
            park.tray(0, 0, 1);
            due("255 of 8 bits", park.write(0, 0, 255), -1);
            due("it is a night", park.judge(0, 0), NONE);
            due("a deed above 8 bits", park.write(0, 0, 256 + 3), 3);
            due("it is a walk", park.judge(0, 2), 6);
        });
        test(43, "IllegalStateException: it is MISSING; IndexOutOfBoundsException: it has no such place.", () -> {
            HedgePark park = Check.of(COMMON);
            tell(park, 0, 1, 2);
            park.tray(1, 3, 0);
            needsOne(park, NO_SUCH, tray -> park.write(tray, 9, 1), LEAST, -1, 4, MOST);
            needsOne(park, STATE, tray -> park.write(tray, 9, 1), 2, 3);
            needsOne(park, INDEX, place -> park.write(0, place, 1), LEAST, -1, 2, 39, 40, MOST);
            needsOne(park, INDEX, place -> park.write(1, place, 1), LEAST, -1, 0, MOST);
        });
        test(44, "How THICK CELLS are comes into a TRAY from its first place on, as many as it has places: how many.", () -> {
            HedgePark park = Check.of("park 6 6;hedge 0 0 box 35;hedge 5 5 box 60;walker 0 0;");
            park.tray(0, 0, 0);
            due("no places", park.copy(0), 0);
            park.tray(0, 0, 1);
            due("one place", park.copy(0), 1);
            due("a walk to cell 35", park.judge(0, 2), 10 + 60);
            park.tray(0, 0, 36);
            due("36", park.copy(0), 36);
            due("35, and zeros, and 60, which is no cell", park.judge(0, 0), 35);
            park.tray(0, 3, 40);
            for (int i = 0; i < 40; i++) {
                park.write(0, i, -1);
            }
            due("40", park.copy(0), 36);
            park.write(0, 35, -1);
            due("those behind are nights still", park.judge(0, 0), NONE);
            due("time", park.judge(0, 2), 0);
            HedgePark empty = new HedgePark();
            empty.tray(3, 2, 40);
            due("no cells", empty.copy(3), 0);
            needsOne(park, NO_SUCH, park::copy, LEAST, -1, 4, MOST);
            needsOne(park, STATE, park::copy, 1, 2, 3);
        });
    }

    private static void images() {
        test(45, "An IMAGE is made. NoSuchElementException: no such one.", () -> {
            HedgePark park = Check.of(COMMON);
            needsOne(park, NO_SUCH, i -> imaged(park, i), LEAST, -1, 3, MOST);
            for (int i = 0; i < 3; i++) {
                int image = i;
                refused("none was made", park, STATE, () -> restored(park, image));
            }
            for (int i = 0; i < 3; i++) {
                park.nights(1);
                park.image(i);
            }
            for (int i = 2; i >= 0; i--) {
                park.restore(i);
                due("image " + i, park.count(4), i + 1);
            }
            park.nights(50);
            park.image(0);
            park.undo(1);
            park.restore(0);
            due("made anew", park.count(4), 51);
            park.restore(1);
            due("the others stay", park.count(4), 2);
        });
        test(46, "All is as in an IMAGE. NoSuchElementException: no such one; IllegalStateException: none was made.", () -> {
            HedgePark park = new HedgePark();
            needsOne(park, NO_SUCH, i -> restored(park, i), LEAST, -1, 3, MOST);
            needsOne(park, STATE, i -> restored(park, i), 0, 1, 2);
            park.image(2);
            needsOne(park, STATE, i -> restored(park, i), 0, 1);
            Check.lay(park, COMMON);
            for (int i = 0; i < 12; i++) {
                park.nights(1);
            }
            park.walk(0, 7);
            String look = Look.at(park);
            park.image(0);
            park.undo(10);
            Check.lay(park, OPEN);
            for (int i = 0; i < 11; i++) {
                park.walk(0, 35 - i);
            }
            park.restore(0);
            CHECK.due("as it was", Look.at(park), look);
            due("its deeds", park.undo(10), 0);
            due("its night", park.count(4), 3);
            due("its hedges", park.thickness(), 8);
            park.restore(0);
            CHECK.due("as often as one likes", Look.at(park), look);
            park.restore(2);
            due("nothing was there", park.count(0), 0);
            refused("no cells", park, NO_SUCH, () -> park.cell(0, 0));
        });
        test(46, "All is as in an IMAGE.", () -> {
            HedgePark park = Check.of(COMMON);
            for (int i = 0; i < 13; i++) {
                park.nights(1);
            }
            String back = Look.back(park);
            park.image(0);
            for (int i = 0; i < 13; i++) {
                park.plant(11, 1);
                park.clip(11, 1);
            }
            park.restore(0);
            CHECK.due("each deed can be undone as it could then", Look.back(park), back);
        });
        test(47, "0 LINES, 1 WIDE, 2 HIGH, 3 WALKERS, 4 NIGHT, 5 TIME, 6 CLIPPINGS, 7 hedges, 8 DEEDS that can be UNDONE, 9 bytes on the tape, 10 1 on a WINTER's NIGHT, else 0, 11 walls", () -> {
            HedgePark park = Check.of(COMMON);
            Check.feed(park, "x");
            for (int i = 0; i < 12; i++) {
                park.nights(1);
            }
            park.clip(2, 2);
            park.walk(0, 1);
            int[] all = {10, 4, 3, 2, 12, 1, 2, 2, 10, 20, 1, 1};
            for (int what = 0; what < all.length; what++) {
                due("count(" + what + ")", park.count(what), all[what]);
            }
            feedBlanks(park, 44);
            due("a full tape", park.count(9), 900);
            HedgePark walls = Check.of("park 2 2;wall 0 0;wall 1 0;wall 0 1;wall 1 1;");
            due("all walls", walls.count(11), 4);
        });
        test(47, "NONE for others.", () -> {
            HedgePark park = Check.of(COMMON);
            for (int what : new int[] {LEAST, -2, -1, 12, 13, MOST}) {
                due("count(" + what + ")", park.count(what), NONE);
            }
        });
    }

    public static void main(String[] args) {
        newAndFeed();
        parkAndFault();
        cellAndWalker();
        walkClipPlant();
        nightsAndUndo();
        toldDeeds();
        soonestToWithin();
        clearedToFarthest();
        errands();
        walls();
        nightsToCome();
        strolls();
        trays();
        images();
        SENTENCES.needAll(1, 47);
        CHECK.end("PromisesEdgesTest");
    }
}
