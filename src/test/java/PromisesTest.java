import java.util.NoSuchElementException;

/** Each promise of the document by answers that were found by hand: ordinary inputs, edges, wrong inputs. */
public final class PromisesTest {
    private static final int NONE = HedgePark.NONE;
    private static final int MOST = Integer.MAX_VALUE;
    private static final int LEAST = Integer.MIN_VALUE;
    private static final Class<?> NO_SUCH = NoSuchElementException.class;
    private static final Class<?> ARGUMENT = IllegalArgumentException.class;
    private static final Class<?> STATE = IllegalStateException.class;
    private static final Class<?> INDEX = IndexOutOfBoundsException.class;
    private static final Check CHECK = new Check();

    /*
     * The park of most tests, by what each cell costs who isn't free (* is a wall):
     *    1  1  4  1      0  1  2  3
     *    1  *  1  5      4  5  6  7
     *    1  1  1  1      8  9 10 11
     */
    private static final String COMMON = "park 4 3;wall 1 1;hedge 2 0 box 3;hedge 3 1 yew 2;walker 0 0;"
            + "walker 0 2 free age 10;errand 0 3 0 4;errand 0 0 1 20;grows kind=1;winter 2;";

    /** Cells 2 to 5 of the left and the right column are parted by a wall from top to bottom. */
    private static final String PARTED = "park 3 2;wall 1 0;wall 1 1;walker 0 0;walker 2 1;errand 0 0 1 9;"
            + "errand 0 2 0 9;errand 0 0 0 9;";

    private static void due(String what, long got, long want) {
        CHECK.due(what, got, want);
    }

    private static void fails(String what, Class<?> kind, Check.Call call) {
        CHECK.throwsDue(what, kind, call);
    }

    private static void faulty(String text, int kind, int place) {
        HedgePark park = Check.of(COMMON);
        park.walk(0, 1);
        due("park of " + text, Check.lay(park, text), -10 - kind);
        due("fault(0) of " + text, park.fault(0), kind);
        due("fault(1) of " + text, park.fault(1), place);
        due("tape behind " + text, park.count(9), 0);
        due("cells behind " + text, park.count(1), 4);
        due("time behind " + text, park.count(5), 1);
        due("deeds behind " + text, park.count(8), 1);
    }

    /** Whether a hedge of kind 2, 5 thick, at x 1, y 2, beside one more, grows by a law. */
    private static void law(String truth, boolean grows) {
        HedgePark park = Check.of("park 3 4;hedge 1 2 yew 5;hedge 2 2 box 1;grows " + truth + ";");
        due("growth by " + truth, park.cell(7, 3), grows ? 1 : 0);
        int before = park.cell(7, 1);
        park.nights(1);
        due("a night by " + truth, park.cell(7, 1) - before, grows ? 1 : 0);
    }

    private static void aNewObject() {
        HedgePark park = new HedgePark();
        for (int what = 0; what <= 11; what++) {
            due("count(" + what + ") of a new object", park.count(what), 0);
        }
        due("fault(0)", park.fault(0), 0);
        due("fault(1)", park.fault(1), NONE);
        due("hedges()", park.hedges(), 0);
        due("thickness()", park.thickness(), 0);
        for (int i = 0; i < 4; i++) {
            int tray = i;
            fails("a missing tray", STATE, () -> park.write(tray, 0, 1));
        }
        fails("cell(0, 0)", NO_SUCH, () -> park.cell(0, 0));
        fails("walker(0, 0)", NO_SUCH, () -> park.walker(0, 0));
        fails("decade(1, 1)", STATE, () -> park.decade(1, 1));
        due("nights(3)", park.nights(3), 0);
        due("count(4)", park.count(4), 3);
        due("undo(1)", park.undo(1), 0);
        due("count(4)", park.count(4), 0);
        due("NONE", HedgePark.NONE, -1);
    }

    private static void feed() {
        HedgePark park = new HedgePark();
        for (int i = 1; i <= 45; i++) {
            due("feed " + i, park.feed(0x20202020, 0x20202020, 0x20202020, 0x20202020, 0x20202020), 20 * i);
        }
        due("feed 46", park.feed(1, 2, 3, 4, 5), NONE);
        due("count(9)", park.count(9), 900);
        due("blanks alone", park.park(900), -12);
        due("fault(1)", park.fault(1), 900);
        park.feed(0x7061726b, 0x20322033, 0x3b000000, -1, 0x80818283);
        due("the highest byte first", park.park(9), 1);
        due("high", park.count(2), 3);
        park.feed(-1, 0, 0, 0, 0);
        due("a byte above 127", park.park(1), -11);
        due("fault(1)", park.fault(1), 0);
    }

    private static void park() {
        HedgePark park = new HedgePark();
        Check.feed(park, "park 2 2;");
        fails("park(-1)", ARGUMENT, () -> park.park(-1));
        fails("park(21)", ARGUMENT, () -> park.park(21));
        fails("park(MIN)", ARGUMENT, () -> park.park(LEAST));
        due("the tape stays", park.count(9), 20);
        due("park(9)", park.park(9), 1);
        due("the tape is empty", park.count(9), 0);
        fails("park(1) of nothing", ARGUMENT, () -> park.park(1));
        park.nights(4);
        due("a park again", Check.lay(park, COMMON), 10);
        due("night", park.count(4), 0);
        due("deeds", park.count(8), 0);
        park.walk(0, 3);
        park.clip(2, 1);
        due("a park once more", Check.lay(park, COMMON), 10);
        due("time", park.count(5), 0);
        due("clippings", park.count(6), 0);
        due("deeds", park.count(8), 0);
        due("blanks", Check.lay(park, " \n park 2\n6 ; hedge 1 5 beech 60 ;\n"), 2);
        due("its hedge", park.cell(11, 1), 60);
        due("no blanks", Check.lay(park, "park 2 2;hedge 0 0box1;walker 0 1free age3;grows x=1and y<2;"), 4);
        due("its walker", park.walker(0, 1), 3);
        due("later strikes", Check.lay(park, "park 2 2;wall 0 0;hedge 0 0 yew 2;hedge 0 0 box 7;walker 0 0;"
                + "hedge 1 1 yew 9;winter 3;winter 5;grows 1=1;grows 1=2;"), 10);
        due("its kind", park.cell(0, 0), 1);
        due("its thickness", park.thickness(), 16);
        due("its law", park.nights(5), 0);
        due("its winter", park.count(10), 1);
        due("a wall on a hedge", Check.lay(park, "park 2 2;hedge 1 0 yew 9;wall 1 0;"), 3);
        due("it is a wall", park.cell(1, 0), 4);
        due("not thick", park.cell(1, 1), 0);
        nothingIsLeft();
        StringBuilder whole = new StringBuilder("park 2 2;hedge 0 0 box 1;grows 1");
        while (whole.length() < 895) {
            whole.append("+1");
        }
        whole.append("=0");
        while (whole.length() < 899) {
            whole.append(' ');
        }
        whole.append(';');
        due("so long a text", whole.length(), 900);
        due("the longest law", Check.lay(park, whole.toString()), 3);
        due("it doesn't hold", park.nights(1), 0);
    }

    private static void nothingIsLeft() {
        HedgePark park = Check.of(PARTED);
        Check.lay(park, COMMON);
        due("errands", park.walker(0, 3), 2);
        due("no errands", park.walker(1, 3), 0);
        Check.lay(park, "park 2 2;hedge 0 1 yew 1;grows 1=1;winter 2;");
        due("hedges", park.hedges(), 4);
        due("walls", park.count(11), 0);
        due("walkers", park.count(3), 0);
        Check.lay(park, "park 4 3;hedge 2 2 box 1;walker 0 0;");
        due("hedges", park.hedges(), 1 << 10);
        due("walls", park.count(11), 0);
        due("no law", park.nights(2), 0);
        due("no winter", park.count(10), 0);
        due("not free", park.walker(0, 2), 0);
        due("age", park.walker(0, 1), 0);
    }

    private static void fault() {
        HedgePark park = new HedgePark();
        due("fault(2)", park.fault(2), NONE);
        due("fault(-1)", park.fault(-1), NONE);
        due("a fault", Check.lay(park, "park 2 9;"), -13);
        due("fault(0)", park.fault(0), 3);
        due("fault(1)", park.fault(1), 7);
        fails("park(1)", ARGUMENT, () -> park.park(1));
        due("fault(0) stays", park.fault(0), 3);
        due("no fault", Check.lay(park, "park 2 2;"), 1);
        due("fault(0)", park.fault(0), 0);
        due("fault(1)", park.fault(1), NONE);
        faultsOfTokens();
        faultsOfBounds();
        faultsOfMany();
    }

    private static void faultsOfTokens() {
        faulty("", 2, 0);
        faulty("  ", 2, 2);
        faulty("Park 2 2;", 1, 0);
        faulty("park 2 2;\twall 0 0;", 1, 9);
        faulty("park 2 2;wall 0000 0;", 1, 14);
        faulty("park 2 2;wall 0 0001;", 1, 16);
        faulty("park 2 2;grows 1234=1;", 1, 15);
        faulty("park 2 2;1234", 1, 9);
        faulty("park 2 2;#", 1, 9);
        faulty("park 2", 2, 6);
        faulty("park 2 2", 2, 8);
        faulty("park 2 2  ", 2, 10);
        faulty("hedge 0 0 box 1;", 2, 0);
        faulty("park 2 2;;", 2, 9);
        faulty("park 2 2;park 2 2;", 2, 9);
        faulty("park 2 2 2;", 2, 9);
        faulty("park 2 x;", 2, 7);
        faulty("park 2 2;walls 0 0;", 2, 9);
        faulty("park 2 2;wal 0 0;", 2, 9);
        faulty("park 2 2;walker 0 0;wall 1 1;", 2, 20);
        faulty("park 2 2;walker 0 0 age 3 free;", 2, 26);
        faulty("park 2 2;walker 0 0 free free;", 2, 25);
        faulty("park 2 2;walker 0 0 age;", 2, 23);
        faulty("park 2 2;hedge 0 0 oak 1;", 2, 19);
        faulty("park 2 2;hedge 0 0 box;", 2, 22);
        faulty("park 2 2;hedge 0 0 5;", 2, 19);
        faulty("park 2 2;grows ;", 2, 15);
        faulty("park 2 2;grows 1;", 2, 16);
        faulty("park 2 2;grows 1=1 2;", 2, 19);
        faulty("park 2 2;grows 1=1=1;", 2, 18);
        faulty("park 2 2;grows (1=1);", 2, 17);
        faulty("park 2 2;grows [1=1;", 2, 19);
        faulty("park 2 2;grows [1]=1;", 2, 17);
        faulty("park 2 2;grows (1 not=1);", 2, 18);
        faulty("park 2 2;grows -1=1;", 2, 15);
        faulty("park 2 2;grows 1=1 and;", 2, 22);
        faulty("park 2 2;grows 1=1 or or 1=1;", 2, 22);
        faulty("park 2 2;grows z=1;", 2, 15);
        faulty("park 2 2;grows xx=1;", 2, 15);
        faulty("park 2 2;grows 1=1", 2, 18);
    }

    private static void faultsOfBounds() {
        faulty("park 1 2;", 3, 5);
        faulty("park 7 2;", 3, 5);
        faulty("park 2 0;", 3, 7);
        faulty("park 3 2;wall 3 0;", 3, 14);
        faulty("park 3 2;wall 2 2;", 3, 16);
        faulty("park 3 2;hedge 0 0 box 0;", 3, 23);
        faulty("park 3 2;hedge 0 0 box 61;", 3, 23);
        faulty("park 3 2;hedge 3 0 oak 1;", 3, 15);
        faulty("park 2 2;wall 0 1;walker 0 1;", 3, 27);
        faulty("park 2 2;wall 0 1;walker 0 2;", 3, 27);
        faulty("park 2 2;errand 0 0 0 1;", 3, 16);
        faulty("park 2 2;walker 0 0;errand 1 0 0 1;walker 1 0;", 3, 27);
        faulty("park 2 2;walker 0 0;errand 0 2 0 1;", 3, 29);
        faulty("park 2 2;winter 1;", 3, 16);
        faulty("park 2 2;winter 10;", 3, 16);
    }

    private static void faultsOfMany() {
        String five = "park 2 2;walker 0 0;walker 0 0;walker 0 0;walker 0 0;walker 0 0;";
        due("five walkers", Check.lay(new HedgePark(), five), 6);
        faulty(five + "walker x", 4, 64);
        faulty(five + "wall 0 0;", 2, 64);
        String four = "park 2 2;walker 0 0;walker 0 0;errand 1 0 0 1;errand 1 0 0 1;errand 1 0 0 1;errand 1 0 0 1;";
        due("four errands", Check.lay(new HedgePark(), four + "errand 0 0 0 1;"), 8);
        faulty(four + "errand 1 9 0 1;", 4, 98);
        faulty(four + "errand 2 0 0 1;", 3, 98);
        due("six deep", Check.lay(new HedgePark(), "park 2 2;grows not[not[((1))=1]]and not[not[((1))=1]];"), 2);
        faulty("park 2 2;grows not[not[(((1)))=1]];", 4, 25);
        faulty("park 2 2;grows [[[[[[[1=1]]]]]]];", 4, 21);
        faulty("park 2 2;grows 1=(((((((1)))))));", 4, 23);
        faulty("park 2 2;grows [[[[[[)1=1]]]]]];", 2, 21);
        faulty("park 2 2;grows [[[[[[!1=1]]]]]];", 1, 21);
        faulty("park 2 2;grows not not not not not not not 1=1;", 4, 39);
    }

    private static void cell() {
        HedgePark park = Check.of(COMMON);
        long[][] all = {{0, 0, 1, 0, 1}, {0, 0, 1, 0, 0}, {1, 3, 4, 1, 0}, {0, 0, 1, 0, 0}, {0, 0, 1, 0, 0},
            {4, 0, NONE, 0, 0}, {0, 0, 1, 0, 0}, {2, 2, 5, 0, 0}, {0, 0, 1, 0, 2}};
        for (int k = 0; k < all.length; k++) {
            for (int what = 0; what < 5; what++) {
                due("cell(" + k + ", " + what + ")", park.cell(k, what), all[k][what]);
            }
        }
        park.walk(1, 0);
        due("two walkers", park.cell(0, 4), 3);
        fails("cell(-1, 0)", NO_SUCH, () -> park.cell(-1, 0));
        fails("cell(12, 9)", NO_SUCH, () -> park.cell(12, 9));
        fails("cell(0, -1)", ARGUMENT, () -> park.cell(0, -1));
        fails("cell(0, 5)", ARGUMENT, () -> park.cell(0, 5));
        HedgePark thick = Check.of("park 2 2;hedge 0 0 beech 60;hedge 1 0 beech 59;grows 1=1;winter 2;");
        due("180 more", thick.cell(0, 2), 181);
        due("can't grow", thick.cell(0, 3), 0);
        due("can grow", thick.cell(1, 3), 1);
        thick.clip(0, 59);
        thick.nights(2);
        due("the half is cut", thick.cell(0, 2), 1 + 9 / 2);
    }

    private static void walker() {
        HedgePark park = Check.of(COMMON);
        due("cell", park.walker(1, 0), 8);
        due("age", park.walker(1, 1), 10);
        due("age without one", park.walker(0, 1), 0);
        due("free", park.walker(1, 2), 1);
        due("not free", park.walker(0, 2), 0);
        due("errands", park.walker(0, 3), 2);
        due("no errands", park.walker(1, 3), 0);
        due("the second's cell", park.walker(0, 11), 4);
        due("the second's time", park.walker(0, 21), 20);
        due("no third", park.walker(0, 12), NONE);
        due("no fourth", park.walker(0, 23), NONE);
        fails("walker(2, 0)", NO_SUCH, () -> park.walker(2, 0));
        fails("walker(-1, 99)", NO_SUCH, () -> park.walker(-1, 99));
        for (int what : new int[] {-1, 4, 9, 14, 19, 24, MOST, LEAST}) {
            fails("walker(0, " + what + ")", ARGUMENT, () -> park.walker(0, what));
        }
    }

    private static void hedges() {
        HedgePark park = Check.of(COMMON);
        due("hedges()", park.hedges(), 1L << 2 | 1L << 7);
        park.clip(2, 3);
        due("hedges()", park.hedges(), 1L << 7);
        due("the last cell", Check.of("park 6 6;hedge 5 5 box 1;").hedges(), 1L << 35);
    }

    private static void thickness() {
        HedgePark park = Check.of(COMMON);
        due("thickness()", park.thickness(), 5);
        park.nights(2);
        due("thickness()", park.thickness(), 7);
        due("of a lesser park", Check.lay(park, "park 2 2;hedge 1 1 yew 8;"), 2);
        due("thickness()", park.thickness(), 8);
    }

    private static void walk() {
        HedgePark park = Check.of(COMMON);
        due("walk(0, 3)", park.walk(0, 3), 6);
        due("time", park.count(5), 6);
        due("age", park.walker(0, 1), 6);
        due("cell", park.walker(0, 0), 3);
        due("walk(0, 3)", park.walk(0, 3), 0);
        due("deeds", park.count(8), 2);
        due("a free one's", park.walk(1, 7), 4);
        due("time", park.count(5), 10);
        due("age", park.walker(1, 1), 14);
        due("to a wall", park.walk(0, 5), NONE);
        due("deeds", park.count(8), 3);
        fails("walk(2, 0)", NO_SUCH, () -> park.walk(2, 0));
        fails("walk(0, 12)", NO_SUCH, () -> park.walk(0, 12));
        fails("walk(-1, -1)", NO_SUCH, () -> park.walk(-1, -1));
        HedgePark parted = Check.of(PARTED);
        due("no way", parted.walk(0, 2), NONE);
        due("time", parted.count(5), 0);
        due("deeds", parted.count(8), 0);
    }

    private static void clip() {
        HedgePark park = Check.of(COMMON);
        due("clip(2, 2)", park.clip(2, 2), 1);
        due("clippings", park.count(6), 2);
        due("clip(2, 60)", park.clip(2, 60), 0);
        due("clippings", park.count(6), 3);
        due("a path", park.cell(2, 0), 0);
        due("clip(7, 2)", park.clip(7, 2), 0);
        due("clippings", park.count(6), 5);
        fails("a path", STATE, () -> park.clip(2, 1));
        fails("a wall", STATE, () -> park.clip(5, 0));
        fails("no cell", NO_SUCH, () -> park.clip(12, 0));
        park.plant(2, 1);
        fails("clip(2, 0)", ARGUMENT, () -> park.clip(2, 0));
        fails("clip(2, 61)", ARGUMENT, () -> park.clip(2, 61));
        due("deeds", park.count(8), 4);
        due("clippings", park.count(6), 5);
    }

    private static void plant() {
        HedgePark park = Check.of(COMMON);
        due("plant(1, 3)", park.plant(1, 3), 3);
        due("kind", park.cell(1, 0), 3);
        due("thick", park.cell(1, 1), 1);
        due("cost", park.cell(1, 2), 4);
        fails("kind 0", ARGUMENT, () -> park.plant(5, 0));
        fails("kind 4", ARGUMENT, () -> park.plant(4, 4));
        fails("no cell", NO_SUCH, () -> park.plant(-1, 0));
        fails("a hedge", STATE, () -> park.plant(1, 1));
        fails("a wall", STATE, () -> park.plant(5, 1));
        fails("somebody", STATE, () -> park.plant(8, 1));
        due("deeds", park.count(8), 1);
        park.walk(1, 9);
        due("nobody", park.plant(8, 1), 4);
    }

    private static void nights() {
        HedgePark park = Check.of(COMMON);
        park.walk(0, 1);
        due("nights(2)", park.nights(2), 2);
        due("night", park.count(4), 2);
        due("time", park.count(5), 0);
        due("thick", park.cell(2, 1), 5);
        due("no box", park.cell(7, 1), 2);
        due("deeds", park.count(8), 2);
        due("nights(99)", park.nights(99), 55);
        fails("nights(0)", ARGUMENT, () -> park.nights(0));
        fails("nights(100)", ARGUMENT, () -> park.nights(100));
        due("night", park.count(4), 101);
        due("without a law", Check.of("park 2 2;hedge 0 0 box 1;").nights(9), 0);
        HedgePark once = Check.of("park 3 2;hedge 0 0 box 1;hedge 1 0 yew 1;grows night=2 and near=1;");
        due("at once", once.nights(2), 0);
        due("in the third", once.nights(1), 2);
        due("no more", once.nights(99), 0);
        HedgePark again = Check.of("park 2 2;hedge 0 0 box 1;grows night=1;");
        for (int i = 0; i < 10; i++) {
            again.nights(99);
        }
        due("behind 990", again.thickness(), 2);
        again.nights(12);
        due("modulo 1000", again.thickness(), 3);
        HedgePark seen = Check.of("park 3 2;hedge 0 0 box 1;hedge 1 0 box 2;hedge 2 0 box 3;grows thick=1 or thick=2;");
        due("all see what was", seen.nights(1), 2);
        laws();
    }

    private static void laws() {
        law("x=1 and y=2 and kind=2 and thick=5 and near=1 and night=0", true);
        law("x>0 and x<2", true);
        law("y>2", false);
        law("not 1=1 or 1=1", true);
        law("not [1=1 or 1=1]", false);
        law("1=1 or 1=1 and 1=2", true);
        law("[1=1 or 1=1] and 1=2", false);
        law("not 1=1 and 1=2", false);
        law("not not 1=1", true);
        law("2+3*4=14", true);
        law("(2+3)*4=20", true);
        law("10-3-4=3", true);
        law("10-(3-4)=11", true);
        law("0-5<0", true);
        law("999*999*999=999*999*2", true);
        law("0-999*999*999=0-999*999-999*999", true);
        law("0-999*999*999+1>0-999*999-999*999", true);
        law("0-999*999-999*999+1+999*999*2=1", true);
        law("999*999+999=999*999+999*2", false);
        law("999*999+999+999+999=999*999+999*3", true);
        law("999*999+999+999=999*999+999*3", false);
        law("thick*kind+near=11", true);
        law("007=7", true);
    }

    private static void undo() {
        HedgePark park = Check.of(COMMON);
        fails("nothing", ARGUMENT, () -> park.undo(1));
        park.walk(0, 3);
        park.clip(2, 3);
        park.plant(1, 2);
        park.nights(3);
        due("undo(1)", park.undo(1), 3);
        due("time as it was", park.count(5), 6);
        due("night as it was", park.count(4), 0);
        due("undo(2)", park.undo(2), 1);
        due("hedges as they were", park.hedges(), 132);
        due("clippings as they were", park.count(6), 0);
        due("undo(1)", park.undo(1), 0);
        due("cell as it was", park.walker(0, 0), 0);
        due("age as it was", park.walker(0, 1), 0);
        for (int i = 1; i <= 12; i++) {
            park.nights(1);
        }
        due("ten at most", park.count(8), 10);
        fails("undo(0)", ARGUMENT, () -> park.undo(0));
        fails("undo(11)", ARGUMENT, () -> park.undo(11));
        due("undo(3)", park.undo(3), 7);
        park.nights(1);
        due("undo(8)", park.undo(8), 0);
        due("the eldest are forgotten", park.count(4), 2);
        fails("undo(1)", ARGUMENT, () -> park.undo(1));
        fails("undo(MIN)", ARGUMENT, () -> park.undo(LEAST));
    }

    private static void tell(HedgePark park, int tray, long... deeds) {
        park.tray(tray, 3, deeds.length);
        for (int i = 0; i < deeds.length; i++) {
            park.write(tray, i, deeds[i]);
        }
    }

    private static void judged(String what, long deed, int why) {
        HedgePark park = Check.of(COMMON);
        tell(park, 2, 1, 1002, deed, -1);
        due("place of " + what, park.judge(2, 0), why == 0 ? NONE : 2);
        due("why of " + what, park.judge(2, 1), why);
        due("done of " + what, park.perform(2), why == 0 ? 4 : 2);
        due("deeds of " + what, park.count(8), why == 0 ? 4 : 2);
    }

    private static void judge() {
        judged("a walk", 111, 0);
        judged("a walk to a wall", 5, 2);
        judged("no walker", 200, 1);
        judged("no cell to walk to", 12, 1);
        judged("no such walker at all", 499, 1);
        judged("500", 500, 1);
        judged("999", 999, 1);
        judged("a clipping", 1007, 0);
        judged("no hedge", 1000, 2);
        judged("a wall to clip", 1005, 2);
        judged("no cell to clip", 1012, 1);
        judged("1100", 1100, 1);
        judged("1999", 1999, 1);
        judged("kind 0", 2003, 1);
        judged("a planting", 2303, 0);
        judged("a planting on a hedge", 2302, 2);
        judged("a planting on somebody", 2108, 2);
        judged("a planting on who came", 2101, 2);
        judged("a planting where one was", 2100, 0);
        judged("no cell to plant on", 2112, 1);
        judged("2400", 2400, 1);
        judged("a night", -1, 0);
        judged("-2", -2, 1);
        judged("a great number", 1L << 32, 1);
        judged("the least number", Long.MIN_VALUE, 1);
        HedgePark park = Check.of(COMMON);
        park.walk(0, 1);
        tell(park, 0, 3, 1007, 1007, 1007, -1);
        due("place", park.judge(0, 0), 3);
        due("why", park.judge(0, 1), 2);
        due("time", park.judge(0, 2), 6);
        due("clippings", park.judge(0, 3), 2);
        due("nothing happened", park.count(6), 0);
        due("no deed", park.count(8), 1);
        tell(park, 1, 3, -1, 100);
        due("time behind a night", park.judge(1, 2), 2);
        tell(park, 3);
        due("nothing told", park.judge(3, 0), NONE);
        due("nothing wrong", park.judge(3, 1), 0);
        due("time as it is", park.judge(3, 2), 1);
        fails("judge(-1, 9)", NO_SUCH, () -> park.judge(-1, 9));
        fails("judge(4, 0)", NO_SUCH, () -> park.judge(4, 0));
        fails("judge(0, 4)", ARGUMENT, () -> park.judge(0, 4));
        fails("judge(0, -1)", ARGUMENT, () -> park.judge(0, -1));
        fails("a missing one", STATE, () -> new HedgePark().judge(0, 9));
        HedgePark empty = new HedgePark();
        tell(empty, 0, -1, 0);
        due("without cells", empty.judge(0, 0), 1);
        due("why", empty.judge(0, 1), 1);
    }

    private static void perform() {
        HedgePark park = Check.of(COMMON);
        tell(park, 0, 3, 1002, 2104, -1, 1004, 1004, 1004, 0);
        due("perform(0)", park.perform(0), 6);
        due("deeds", park.count(8), 6);
        due("clippings", park.count(6), 3);
        due("thick", park.cell(2, 1), 3);
        due("night", park.count(4), 1);
        due("undo(3)", park.undo(3), 3);
        due("ahead of the night", park.count(5), 6);
        due("no place to plant a second time", park.perform(0), 2);
        tell(park, 1, -1, -1, -1, -1, -1, -1, -1, -1, -1, -1, -1, -1);
        due("twelve nights", park.perform(1), 12);
        due("ten can be undone", park.count(8), 10);
        fails("perform(4)", NO_SUCH, () -> park.perform(4));
        fails("perform(2)", STATE, () -> park.perform(2));
        park.tray(2, 0, 0);
        due("nothing", park.perform(2), 0);
    }

    private static void decade() {
        fails("no cells, no times", ARGUMENT, () -> new HedgePark().decade(1, 31));
        fails("no cells", STATE, () -> new HedgePark().decade(1, 30));
        HedgePark park = Check.of(COMMON);
        fails("0 times", ARGUMENT, () -> park.decade(1, 0));
        fails("31 times", ARGUMENT, () -> park.decade(1, 31));
        // 1 becomes 1103527590, 16838 of which modulo 4 is 2; then 2524885223, 38526 of which modulo 12 is 6: a path
        due("decade(1, 1)", park.decade(1, 1), 0);
        due("no deed", park.count(8), 0);
        // 5 becomes 1222621274, 18655: 3; then 41225: cell 5, a wall
        due("decade(5, 1)", park.decade(5, 1), 0);
        // 36 becomes 1071855501, 16355: 3; then 12985: cell 1; then 47282: kind 1 and 2
        due("decade(36, 1)", park.decade(36, 1), 1);
        due("planted", park.cell(1, 0), 3);
        due("a deed", park.count(8), 1);
        // 39 becomes 87433940, 1334: 2; then 31393: cell 1
        due("decade(39, 1)", park.decade(39, 1), 1);
        due("clipped", park.cell(1, 0), 0);
        // 4 becomes 119106029, 1817: 1; then 56934: walker 0; then 43259: cell 11
        due("decade(4, 1)", park.decade(4, 1), 1);
        due("walked", park.walker(0, 0), 11);
        // without walkers: nothing, and what would tell the walker tells the next deed: 56934, 2: 43259 modulo 4 is cell 3
        HedgePark empty = Check.of("park 2 2;hedge 1 1 box 1;");
        due("decade(4, 2) without walkers", empty.decade(4, 2), 1);
        due("clipped", empty.hedges(), 0);
        // 0 becomes 12345, 0: a night
        due("decade(0, 1)", park.decade(0, 1), 1);
        due("night", park.count(4), 1);
    }

    private static void soonest() {
        HedgePark park = Check.of(COMMON);
        long[] far = {0, 1, 5, 6, 1, NONE, 5, 10, 2, 3, 4, 5};
        for (int k = 0; k < 12; k++) {
            due("soonest(0, " + k + ")", park.soonest(0, k), far[k]);
        }
        due("a free one", park.soonest(1, 2), 4);
        due("no way", Check.of(PARTED).soonest(0, 5), NONE);
        park.nights(2);
        due("by winter", park.soonest(0, 3), 5);
        fails("soonest(2, 0)", NO_SUCH, () -> park.soonest(2, 0));
        fails("soonest(0, 12)", NO_SUCH, () -> park.soonest(0, 12));
    }

    private static void way() {
        HedgePark park = Check.of(COMMON);
        long[] row = {0, 4, 8, 9, 10, 6};
        due("steps", park.way(0, 6, NONE), 5);
        for (int i = 0; i < row.length; i++) {
            due("way(0, 6, " + i + ")", park.way(0, 6, i), row[i]);
        }
        due("not so many", park.way(0, 6, 6), NONE);
        due("below", park.way(0, 6, -2), NONE);
        due("far above", park.way(0, 6, MOST), NONE);
        due("no way", park.way(0, 5, NONE), NONE);
        due("no way", park.way(0, 5, 0), NONE);
        due("where it stands", park.way(0, 0, NONE), 0);
        due("where it stands", park.way(0, 0, 0), 0);
        due("where it stands", park.way(0, 0, 1), NONE);
        HedgePark open = Check.of("park 3 3;walker 1 1;walker 2 2;");
        due("the first", open.way(0, 0, 1), 1);
        due("the first", open.way(1, 0, 1), 5);
        due("the first", open.way(1, 0, 2), 2);
        due("the first", open.way(1, 0, 3), 1);
        fails("way(0, 12, 0)", NO_SUCH, () -> park.way(0, 12, 0));
        fails("way(-1, 0, 0)", NO_SUCH, () -> park.way(-1, 0, 0));
    }

    private static void ways() {
        HedgePark park = Check.of(COMMON);
        due("ways(1, 3)", park.ways(1, 3), 4);
        due("ways(0, 6)", park.ways(0, 6), 1);
        due("ways(0, 0)", park.ways(0, 0), 1);
        due("ways(0, 5)", park.ways(0, 5), 0);
        due("of a park", Check.of("park 6 6;walker 5 0;").ways(0, 30), 252);
        // a hedge of cost 3 in the middle: straight through, or round on either side
        HedgePark round = Check.of("park 3 3;hedge 1 1 box 2;walker 1 0;");
        due("through and round", round.ways(0, 7), 3);
        fails("ways(2, 0)", NO_SUCH, () -> park.ways(2, 0));
        fails("ways(0, -1)", NO_SUCH, () -> park.ways(0, -1));
    }

    private static void within() {
        HedgePark park = Check.of(COMMON);
        due("within(0, 6, 2)", park.within(0, 6, 2), NONE);
        due("within(0, 6, 3)", park.within(0, 6, 3), 6);
        due("within(0, 6, 4)", park.within(0, 6, 4), 6);
        due("within(0, 6, 5)", park.within(0, 6, 5), 5);
        due("within(0, 6, 99)", park.within(0, 6, 99), 5);
        due("within(0, 0, 0)", park.within(0, 0, 0), 0);
        due("within(0, 1, 0)", park.within(0, 1, 0), NONE);
        due("to a wall", park.within(0, 5, 99), NONE);
        fails("within(0, 0, -1)", ARGUMENT, () -> park.within(0, 0, -1));
        fails("within(0, 0, 100)", ARGUMENT, () -> park.within(0, 0, 100));
        fails("within(0, 12, 100)", NO_SUCH, () -> park.within(0, 12, 100));
        fails("within(2, 0, 100)", NO_SUCH, () -> park.within(2, 0, 100));
    }

    private static void steps() {
        HedgePark park = Check.of(COMMON);
        due("steps(0, 6, 4)", park.steps(0, 6, 4), NONE);
        due("steps(0, 6, 5)", park.steps(0, 6, 5), 5);
        due("steps(0, 6, 6)", park.steps(0, 6, 6), 3);
        due("steps(0, 6, MAX)", park.steps(0, 6, MOST), 3);
        due("steps(0, 0, 0)", park.steps(0, 0, 0), 0);
        due("to a wall", park.steps(0, 5, MOST), NONE);
        fails("steps(0, 6, -1)", ARGUMENT, () -> park.steps(0, 6, -1));
        fails("steps(0, 12, -1)", NO_SUCH, () -> park.steps(0, 12, -1));
        // a walk that turns through all cells but the walls
        HedgePark snake = Check.of("park 6 6;wall 0 1;wall 1 1;wall 2 1;wall 3 1;wall 4 1;wall 1 3;wall 2 3;wall 3 3;"
                + "wall 4 3;wall 5 3;wall 0 5;walker 0 0;");
        due("a long one", snake.steps(0, 35, MOST), 20);
    }

    private static void cleared() {
        HedgePark park = Check.of(COMMON);
        due("cleared(0, 3, 0)", park.cleared(0, 3, 0), 6);
        due("cleared(0, 3, 1)", park.cleared(0, 3, 1), 3);
        due("cleared(0, 7, 1)", park.cleared(0, 7, 1), 6);
        due("cleared(0, 7, 2)", park.cleared(0, 7, 2), 4);
        due("cleared(0, 7, 36)", park.cleared(0, 7, 36), 4);
        due("cleared(0, 5, 36)", park.cleared(0, 5, 36), NONE);
        due("cleared(0, 0, 9)", park.cleared(0, 0, 9), 0);
        due("a free one's", park.cleared(1, 7, 0), 4);
        fails("cleared(0, 3, -1)", ARGUMENT, () -> park.cleared(0, 3, -1));
        fails("cleared(0, 3, 37)", ARGUMENT, () -> park.cleared(0, 3, 37));
        fails("cleared(0, 12, 37)", NO_SUCH, () -> park.cleared(0, 12, 37));
    }

    private static void clipFor() {
        HedgePark park = Check.of(COMMON);
        due("by 10", park.clipFor(0, 7, 10, 0), 0);
        due("cost", park.clipFor(0, 7, 10, 1), 10);
        due("by 9", park.clipFor(0, 7, 9, 0), 1);
        due("cost", park.clipFor(0, 7, 9, 1), 6);
        due("by 5", park.clipFor(0, 7, 5, 0), 2);
        due("cost", park.clipFor(0, 7, 5, 1), 4);
        due("by 3", park.clipFor(0, 7, 3, 0), NONE);
        due("cost", park.clipFor(0, 7, 3, 1), NONE);
        due("by any", park.clipFor(0, 7, MOST, 0), 0);
        due("a wall", park.clipFor(0, 5, MOST, 0), NONE);
        due("where it stands", park.clipFor(0, 0, 0, 1), 0);
        fails("c", ARGUMENT, () -> park.clipFor(0, 7, -1, 0));
        fails("what", ARGUMENT, () -> park.clipFor(0, 7, 1, 2));
        fails("what", ARGUMENT, () -> park.clipFor(0, 7, 1, -1));
        fails("the cell first", NO_SUCH, () -> park.clipFor(0, 12, -1, 0));
    }

    private static void reach() {
        HedgePark park = Check.of(COMMON);
        due("reach(0, 0)", park.reach(0, 0), 1);
        due("reach(0, 2)", park.reach(0, 2), 1 | 1 << 1 | 1 << 4 | 1 << 8);
        due("reach(0, MAX)", park.reach(0, MOST), 0xfff & ~(1 << 5));
        due("parted", Check.of(PARTED).reach(0, MOST), 1 | 1 << 3);
        due("above bit 31", Check.of("park 6 6;walker 5 5;").reach(0, 1), 1L << 35 | 1L << 34 | 1L << 29);
        fails("reach(0, -1)", ARGUMENT, () -> park.reach(0, -1));
        fails("reach(2, -1)", NO_SUCH, () -> park.reach(2, -1));
    }

    private static void farthest() {
        HedgePark park = Check.of(COMMON);
        due("farthest(0)", park.farthest(0), 7);
        due("farthest(1), of two", park.farthest(1), 3);
        due("shut in", Check.of("park 2 2;wall 0 1;wall 1 0;walker 1 1;").farthest(0), 3);
        due("the first", Check.of("park 3 3;walker 1 1;").farthest(0), 0);
        fails("farthest(2)", NO_SUCH, () -> park.farthest(2));
    }

    private static void round() {
        HedgePark park = Check.of(COMMON);
        due("cost", park.round(0, 0), 13);
        due("the first late", park.round(0, 1), 0);
        due("how many", park.round(0, 2), 1);
        due("no errands: cost", park.round(1, 0), 0);
        due("none late", park.round(1, 1), NONE);
        due("how many", park.round(1, 2), 0);
        HedgePark time = Check.of("park 2 2;walker 0 0;errand 0 0 1 1;errand 0 0 0 2;errand 0 0 0 2;");
        due("just in time", time.round(0, 2), 0);
        time.walk(0, 1);
        due("from time as it is", time.round(0, 2), 3);
        due("the first late", time.round(0, 1), 0);
        HedgePark parted = Check.of(PARTED);
        due("as far as it goes", parted.round(0, 0), 1);
        due("from the second on", parted.round(0, 1), 1);
        due("all are", parted.round(0, 2), 2);
        fails("what", ARGUMENT, () -> park.round(0, 3));
        fails("what", ARGUMENT, () -> park.round(0, -1));
        fails("walker", NO_SUCH, () -> park.round(2, 3));
    }

    private static void bestOrder() {
        HedgePark park = Check.of(COMMON);
        due("late", park.bestOrder(0, 0), 1);
        due("cost", park.bestOrder(0, 1), 8);
        due("first", park.bestOrder(0, 10), 1);
        due("second", park.bestOrder(0, 11), 0);
        due("no third", park.bestOrder(0, 12), NONE);
        due("none: late", park.bestOrder(1, 0), 0);
        due("none: cost", park.bestOrder(1, 1), 0);
        due("none: first", park.bestOrder(1, 10), NONE);
        // all in time only if the far one comes first, though it costs more
        HedgePark far = Check.of("park 6 2;walker 2 0;errand 0 1 0 99;errand 0 5 0 3;errand 0 0 0 99;");
        due("late", far.bestOrder(0, 0), 0);
        due("cost", far.bestOrder(0, 1), 8);
        due("first", far.bestOrder(0, 10), 1);
        due("second", far.bestOrder(0, 11), 0);
        due("third", far.bestOrder(0, 12), 2);
        due("no fourth", far.bestOrder(0, 13), NONE);
        // the like ones: both cost 3, and the first order is told
        HedgePark like = Check.of("park 3 2;walker 1 0;errand 0 2 0 9;errand 0 0 0 9;");
        due("the first", like.bestOrder(0, 10), 0);
        HedgePark parted = Check.of(PARTED);
        due("one can't be", parted.bestOrder(0, 0), 1);
        due("least cost", parted.bestOrder(0, 1), 1);
        due("first", parted.bestOrder(0, 10), 2);
        due("second", parted.bestOrder(0, 11), 0);
        due("third", parted.bestOrder(0, 12), 1);
        fails("what", ARGUMENT, () -> park.bestOrder(0, 2));
        fails("what", ARGUMENT, () -> park.bestOrder(0, 9));
        fails("what", ARGUMENT, () -> park.bestOrder(0, 14));
        fails("what", ARGUMENT, () -> park.bestOrder(0, -1));
        fails("walker", NO_SUCH, () -> park.bestOrder(-1, 2));
    }

    private static void meet() {
        HedgePark park = Check.of(COMMON);
        due("fair", park.meet(0, 1, true, 0), 4);
        due("fair", park.meet(1, 0, true, 1), 1);
        due("cheap", park.meet(0, 1, false, 0), 0);
        due("cheap", park.meet(0, 1, false, 1), 2);
        HedgePark parted = Check.of(PARTED);
        due("they can't", parted.meet(0, 1, true, 0), NONE);
        due("they can't", parted.meet(0, 1, false, 1), NONE);
        // who isn't free stands behind a thick hedge, through which the free one goes for nothing
        HedgePark behind = Check.of("park 4 2;wall 0 1;wall 1 1;wall 2 1;wall 3 1;hedge 1 0 yew 9;walker 0 0;"
                + "walker 3 0 free;");
        due("fair", behind.meet(0, 1, true, 0), 0);
        due("fair", behind.meet(0, 1, true, 1), 3);
        due("cheap", behind.meet(0, 1, false, 1), 3);
        fails("one", ARGUMENT, () -> park.meet(1, 1, true, 0));
        fails("what", ARGUMENT, () -> park.meet(0, 1, true, 2));
        fails("what", ARGUMENT, () -> park.meet(0, 1, true, -1));
        fails("nobody", NO_SUCH, () -> park.meet(0, 2, true, 2));
        fails("nobody", NO_SUCH, () -> park.meet(2, 2, true, 2));
        fails("nobody", NO_SUCH, () -> park.meet(2, 0, true, 0));
        fails("nobody", NO_SUCH, () -> park.meet(-1, 0, true, 0));
    }

    private static void first() {
        HedgePark park = Check.of(COMMON);
        due("first(0)", park.first(0), 0);
        due("first(4)", park.first(4), 0);
        due("first(8)", park.first(8), 1);
        due("first(7)", park.first(7), 1);
        due("first(5)", park.first(5), NONE);
        due("nobody at all", Check.of("park 2 2;").first(0), NONE);
        fails("first(12)", NO_SUCH, () -> park.first(12));
    }

    private static void own() {
        HedgePark park = Check.of(COMMON);
        due("own(0)", park.own(0), 3);
        due("own(1)", park.own(1), 0xfff & ~(1 | 2 | 1 << 4 | 1 << 5));
        due("alone", Check.of("park 2 2;wall 1 1;walker 0 0;").own(0), 7);
        due("on one cell", Check.of("park 2 2;walker 0 0;walker 0 0;").own(1), 0);
        due("parted", Check.of(PARTED).own(1), 1 << 2 | 1 << 5);
        fails("own(2)", NO_SUCH, () -> park.own(2));
    }

    private static void shutOff() {
        HedgePark park = Check.of(COMMON);
        due("two", park.shutOff(0, 3), 2);
        due("beside", park.shutOff(0, 1), NONE);
        due("one", park.shutOff(0, 0), NONE);
        due("a wall", park.shutOff(0, 5), 0);
        due("no way", Check.of(PARTED).shutOff(0, 2), 0);
        due("a wall beside", Check.of(PARTED).shutOff(0, 1), 0);
        due("one alone", Check.of("park 3 2;wall 1 1;walker 0 0;").shutOff(0, 5), 1);
        HedgePark open = Check.of("park 6 6;walker 1 1;walker 0 2;");
        due("four", open.shutOff(0, 28), 4);
        due("three", open.shutOff(1, 28), 3);
        due("a corner", open.shutOff(0, 35), 2);
        // ways that were found first have to give cells back for the third one
        HedgePark back = Check.of("park 6 4;wall 4 2;wall 2 2;walker 3 0;");
        due("given back", back.shutOff(0, 13), 3);
        // what was given back may be taken once more
        due("taken again", Check.of("park 5 4;wall 1 2;wall 3 3;walker 1 1;").shutOff(0, 13), 3);
        HedgePark four = Check.of("park 6 6;wall 2 0;wall 0 1;wall 0 3;wall 3 3;wall 0 5;walker 3 1;");
        due("taken again by the fourth", four.shutOff(0, 28), 4);
        fails("shutOff(2, 0)", NO_SUCH, () -> park.shutOff(2, 0));
        fails("shutOff(0, 12)", NO_SUCH, () -> park.shutOff(0, 12));
    }

    private static void needed() {
        HedgePark park = Check.of(COMMON);
        due("two ways", park.needed(0, 3), 0);
        due("a wall", park.needed(0, 5), 0);
        due("where it stands", park.needed(0, 0), 0);
        HedgePark neck = Check.of("park 5 2;wall 1 1;wall 3 1;walker 0 1;");
        due("a neck", neck.needed(0, 9), 1 | 1 << 1 | 1 << 2 | 1 << 3 | 1 << 4);
        due("the end isn't", neck.needed(0, 2), 1 | 1 << 1);
        due("no way", Check.of(PARTED).needed(0, 2), 0);
        HedgePark high = Check.of("park 6 6;wall 5 4;walker 0 0;");
        due("above bit 31", high.needed(0, 35), 1L << 34);
        fails("needed(2, 0)", NO_SUCH, () -> park.needed(2, 0));
        fails("needed(0, 12)", NO_SUCH, () -> park.needed(0, 12));
    }

    private static void dearest() {
        HedgePark park = Check.of(COMMON);
        due("dearest(0, 3)", park.dearest(0, 3), 2);
        due("dearest(0, 6), from 5 to 6", park.dearest(0, 6), 4);
        due("a wall", park.dearest(0, 5), NONE);
        due("beside", park.dearest(0, 1), NONE);
        due("where it stands", park.dearest(0, 0), NONE);
        due("no other costs more", Check.of("park 2 2;walker 0 0;").dearest(0, 3), NONE);
        // through cell 1 alone: without it there is none left, and that is more than without cell 2
        due("none left", Check.of("park 4 2;wall 1 1;walker 0 0;").dearest(0, 3), 1);
        due("of two the first", Check.of("park 5 2;wall 1 1;wall 2 1;walker 0 0;").dearest(0, 4), 1);
        fails("dearest(2, 0)", NO_SUCH, () -> park.dearest(2, 0));
        fails("dearest(0, 12)", NO_SUCH, () -> park.dearest(0, 12));
    }

    private static void soonestIn() {
        HedgePark park = Check.of(COMMON);
        long[] costs = {6, 7, 5, 9, 6};
        for (int n = 0; n < costs.length; n++) {
            due("soonestIn(0, 3, " + n + ")", park.soonestIn(0, 3, n), costs[n]);
        }
        due("soonestIn(0, 3, 99)", park.soonestIn(0, 3, 99), 11);
        due("a wall", park.soonestIn(0, 5, 1), NONE);
        due("nothing happened", park.count(4), 0);
        due("nothing happened", park.thickness(), 5);
        fails("n", ARGUMENT, () -> park.soonestIn(0, 3, -1));
        fails("n", ARGUMENT, () -> park.soonestIn(0, 3, 100));
        fails("cell", NO_SUCH, () -> park.soonestIn(0, 12, 100));
    }

    private static void bestNight() {
        HedgePark park = Check.of(COMMON);
        due("bestNight(0, 3, 0)", park.bestNight(0, 3, 0), 0);
        due("bestNight(0, 3, 1)", park.bestNight(0, 3, 1), 0);
        due("bestNight(0, 3, 99)", park.bestNight(0, 3, 99), 2);
        due("where it stands", park.bestNight(0, 0, 99), 0);
        due("a wall", park.bestNight(0, 5, 9), NONE);
        fails("n", ARGUMENT, () -> park.bestNight(0, 3, -1));
        fails("n", ARGUMENT, () -> park.bestNight(0, 3, 100));
        fails("walker", NO_SUCH, () -> park.bestNight(2, 3, 100));
    }

    private static void grownTo() {
        HedgePark park = Check.of(COMMON);
        due("grownTo(0, 3, 0)", park.grownTo(0, 3, 0), 0);
        due("grownTo(0, 3, 6)", park.grownTo(0, 3, 6), 0);
        due("grownTo(0, 3, 7)", park.grownTo(0, 3, 7), 1);
        due("grownTo(0, 3, 9)", park.grownTo(0, 3, 9), 3);
        due("grownTo(0, 3, MAX)", park.grownTo(0, 3, MOST), NONE);
        due("a wall", park.grownTo(0, 5, 0), NONE);
        HedgePark late = Check.of("park 2 2;wall 1 1;hedge 1 0 box 1;walker 0 0;grows night>55;");
        due("on the 99th", late.grownTo(0, 1, 45), 99);
        due("behind it", late.grownTo(0, 1, 46), NONE);
        fails("c", ARGUMENT, () -> park.grownTo(0, 3, -1));
        fails("cell", NO_SUCH, () -> park.grownTo(0, 12, -1));
    }

    private static void walks() {
        HedgePark park = Check.of(COMMON);
        due("walks(0, 0, 0)", park.walks(0, 0, 0), 1);
        due("walks(0, 1, 0)", park.walks(0, 1, 0), 0);
        due("walks(0, 0, 2)", park.walks(0, 0, 2), 2);
        due("walks(0, 2, 5)", park.walks(0, 2, 5), 1);
        due("walks(1, 0, 2)", park.walks(1, 0, 2), 1);
        due("a wall", park.walks(0, 5, 2), 0);
        due("one step of 30", Check.of("park 2 2;wall 0 1;hedge 1 0 box 29;walker 0 0;").walks(0, 1, 30), 1);
        // in a park of 2 by 2 each step has two ways: half of all 2^30 end where they began
        due("many", Check.of("park 2 2;walker 0 0;").walks(0, 0, 30), 1L << 29);
        fails("t", ARGUMENT, () -> park.walks(0, 0, -1));
        fails("t", ARGUMENT, () -> park.walks(0, 0, 31));
        fails("cell", NO_SUCH, () -> park.walks(0, 12, 31));
        fails("walker", NO_SUCH, () -> park.walks(2, 0, 31));
    }

    private static void been() {
        HedgePark park = Check.of(COMMON);
        due("been(0, 0, 2)", park.been(0, 0, 2), 1 | 1 << 1 | 1 << 4);
        due("been(0, 0, 0)", park.been(0, 0, 0), 1);
        due("been(0, 0, 1)", park.been(0, 0, 1), 0);
        due("been(0, 2, 5)", park.been(0, 2, 5), 7);
        // the way alone costs 6: the long one leads through cell 7, which costs 5
        due("been(0, 3, 6)", park.been(0, 3, 6), 15);
        due("a wall", park.been(0, 5, 2), 0);
        fails("t", ARGUMENT, () -> park.been(0, 0, 31));
        fails("cell", NO_SUCH, () -> park.been(0, 12, 31));
    }

    private static void through() {
        HedgePark park = Check.of(COMMON);
        due("an end", park.through(0, 0, 2, 0), 2);
        due("one of two", park.through(0, 0, 2, 4), 1);
        due("none", park.through(0, 0, 2, 8), 0);
        due("a wall", park.through(0, 0, 2, 5), 0);
        due("no walks", park.through(0, 0, 1, 0), 0);
        // ten walks of four steps go from a corner and back: five over 1 first, two over 6 first and 1 last
        due("four steps", Check.of("park 6 6;walker 0 0;").through(0, 0, 4, 1), 7);
        fails("cell", NO_SUCH, () -> park.through(0, 0, 31, 12));
        fails("cell", NO_SUCH, () -> park.through(0, 0, 2, -1));
        fails("t", ARGUMENT, () -> park.through(0, 0, 31, 0));
        fails("walker", NO_SUCH, () -> park.through(2, 0, 31, 0));
    }

    private static void tells() {
        HedgePark park = Check.of(COMMON);
        due("of two even ones the first", park.tells(0, 0, 2), 1);
        due("no walks", park.tells(0, 0, 1), NONE);
        due("one walk alone tells nothing", park.tells(0, 2, 5), 0);
        due("a wall", park.tells(0, 5, 9), NONE);
        // of ten seven come by 1, as many by 6, four by 7, one by 2: 7 parts them most evenly
        due("four steps", Check.of("park 6 6;walker 0 0;").tells(0, 0, 4), 7);
        fails("t", ARGUMENT, () -> park.tells(0, 0, 31));
        fails("cell", NO_SUCH, () -> park.tells(0, 12, 31));
    }

    private static void maybe() {
        HedgePark park = Check.of(COMMON);
        due("maybe(0, 0)", park.maybe(0, 0), 1);
        due("maybe(0, 1)", park.maybe(0, 1), 1 << 1 | 1 << 4);
        due("maybe(0, 2)", park.maybe(0, 2), 1 | 1 << 8);
        due("maybe(0, 5)", park.maybe(0, 5), 1 << 1 | 1 << 4 | 1 << 9 | 1 << 2 | 1 << 6 | 1 << 11);
        due("shut in", Check.of("park 2 2;wall 0 1;wall 1 0;walker 0 0;").maybe(0, 30), 0);
        fails("t", ARGUMENT, () -> park.maybe(0, -1));
        fails("t", ARGUMENT, () -> park.maybe(0, 31));
        fails("walker", NO_SUCH, () -> park.maybe(2, 31));
    }

    private static long filled(HedgePark park, int tray, int sort, int many) {
        park.tray(tray, sort, many);
        return many;
    }

    private static void tray() {
        HedgePark park = Check.of(COMMON);
        filled(park, 0, 3, 2);
        park.write(0, 1, 77);
        filled(park, 0, 3, 2);
        // a row of zeros tells walks to cell 0
        due("zeros again", park.judge(0, 0), NONE);
        due("of 40", filled(park, 3, 0, 40), 40);
        due("place 39", park.write(3, 39, 1), 1);
        fails("no such tray", NO_SUCH, () -> filled(park, 4, 9, 99));
        fails("no such tray", NO_SUCH, () -> filled(park, -1, 0, 0));
        fails("no such sort", ARGUMENT, () -> filled(park, 0, 4, 1));
        fails("no such sort", ARGUMENT, () -> filled(park, 0, -1, 1));
        fails("too many", ARGUMENT, () -> filled(park, 0, 0, 41));
        fails("too few", ARGUMENT, () -> filled(park, 0, 0, -1));
        due("it stays", park.write(0, 1, 1L << 40), 1L << 40);
    }

    private static void write() {
        HedgePark park = new HedgePark();
        long v = 0x123456789abcdef0L;
        long[] cut = {(byte) 0xf0, (short) 0xdef0, 0x9abcdef0, v};
        for (int sort = 0; sort < 4; sort++) {
            park.tray(sort, sort, 1);
            due("sort " + sort, park.write(sort, 0, v), cut[sort]);
            due("-1", park.write(sort, 0, -1), -1);
        }
        due("128 in 8 bits", park.write(0, 0, 128), -128);
        due("255 in 8 bits", park.write(0, 0, 255), -1);
        due("it is a night then", park.perform(0), 1);
        fails("place 1", INDEX, () -> park.write(0, 1, 0));
        fails("place -1", INDEX, () -> park.write(0, -1, 0));
        park.tray(0, 0, 0);
        fails("no places", INDEX, () -> park.write(0, 0, 0));
        fails("no tray", NO_SUCH, () -> park.write(4, 9, 0));
        fails("missing", STATE, () -> new HedgePark().write(3, 99, 0));
    }

    private static void copy() {
        HedgePark park = Check.of("park 2 2;hedge 0 0 box 3;walker 1 1;");
        park.tray(0, 0, 2);
        due("as many as it has places", park.copy(0), 2);
        park.tray(1, 3, 9);
        for (int i = 0; i < 9; i++) {
            park.write(1, i, -2);
        }
        due("all cells", park.copy(1), 4);
        // 3: the walker stays; 0: through the hedge for 1 and 4; the places behind are -2 still, and can't be
        due("the rest stays", park.judge(1, 0), 4);
        due("time", park.judge(1, 2), 5);
        park.tray(2, 0, 0);
        due("no places", park.copy(2), 0);
        fails("missing", STATE, () -> park.copy(3));
        fails("no tray", NO_SUCH, () -> park.copy(-1));
        HedgePark empty = new HedgePark();
        empty.tray(0, 0, 5);
        due("no cells", empty.copy(0), 0);
    }

    private static long imaged(HedgePark park, int i) {
        park.image(i);
        return 0;
    }

    private static long restored(HedgePark park, int i) {
        park.restore(i);
        return 0;
    }

    private static void imageAndRestore() {
        HedgePark park = new HedgePark();
        park.image(2);
        Check.lay(park, COMMON);
        park.walk(0, 3);
        park.clip(2, 1);
        park.nights(1);
        park.walk(0, 11);
        park.image(0);
        park.nights(5);
        park.undo(3);
        park.tray(1, 2, 3);
        Check.feed(park, "park 2 2;");
        due("a fault", park.park(5), -12);
        Check.feed(park, "park 2 2;");
        park.restore(0);
        due("deeds", park.count(8), 4);
        due("time", park.count(5), 6);
        due("night", park.count(4), 1);
        due("clippings", park.count(6), 1);
        due("age", park.walker(0, 1), 12);
        due("lines", park.count(0), 10);
        due("the tape stays", park.count(9), 20);
        due("the fault stays", park.fault(0), 2);
        due("trays stay", park.write(1, 2, 5), 5);
        due("undo(4)", park.undo(4), 0);
        due("thick", park.cell(2, 1), 3);
        due("a lesser park", park.park(9), 1);
        park.restore(0);
        due("its law and winter", park.soonestIn(1, 0, 1), 2);
        due("its winter", park.nights(1), 1);
        due("its winter", park.count(10), 1);
        due("its errands", park.walker(0, 21), 20);
        park.image(0);
        park.restore(2);
        due("none was there", park.count(1), 0);
        park.restore(0);
        due("made anew", park.count(4), 2);
        fails("image(3)", NO_SUCH, () -> imaged(park, 3));
        fails("image(-1)", NO_SUCH, () -> imaged(park, -1));
        fails("restore(3)", NO_SUCH, () -> restored(park, 3));
        fails("restore(-1)", NO_SUCH, () -> restored(park, -1));
        fails("restore(1)", STATE, () -> restored(park, 1));
    }

    private static void count() {
        HedgePark park = Check.of(COMMON);
        Check.feed(park, "x");
        park.walk(0, 1);
        park.clip(2, 1);
        long[] all = {10, 4, 3, 2, 0, 1, 1, 2, 2, 20, 0, 1};
        for (int what = 0; what < all.length; what++) {
            due("count(" + what + ")", park.count(what), all[what]);
        }
        park.nights(2);
        due("a winter's night", park.count(10), 1);
        park.nights(1);
        due("no winter's night", park.count(10), 0);
        due("count(12)", park.count(12), NONE);
        due("count(-1)", park.count(-1), NONE);
        due("count(MIN)", park.count(LEAST), NONE);
    }

    public static void main(String[] args) {
        aNewObject();
        feed();
        park();
        fault();
        cell();
        walker();
        hedges();
        thickness();
        walk();
        clip();
        plant();
        nights();
        undo();
        judge();
        perform();
        decade();
        soonest();
        way();
        ways();
        within();
        steps();
        cleared();
        clipFor();
        reach();
        farthest();
        round();
        bestOrder();
        meet();
        first();
        own();
        shutOff();
        needed();
        dearest();
        soonestIn();
        bestNight();
        grownTo();
        walks();
        been();
        through();
        tells();
        maybe();
        tray();
        write();
        copy();
        imageAndRestore();
        count();
        CHECK.end("PromisesTest");
    }
}
