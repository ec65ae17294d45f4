/** All that can be seen of an object, as a text: two looks are the same if nothing has changed between them. */
final class Look {
    private static final int[] WALKER_WHATS = {0, 1, 2, 3, 10, 11, 12, 13, 20, 21, 22, 23};

    private Look() {
    }

    /** What can be seen without a deed. */
    static String at(HedgePark park) {
        StringBuilder b = new StringBuilder();
        for (int what = 0; what <= 11; what++) {
            b.append(park.count(what)).append(' ');
        }
        b.append("fault ").append(park.fault(0)).append(' ').append(park.fault(1));
        b.append(" hedges ").append(park.hedges()).append(' ').append(park.thickness());
        for (int k = 0; k < park.count(1) * park.count(2); k++) {
            b.append(" cell");
            for (int what = 0; what <= 4; what++) {
                b.append(' ').append(park.cell(k, what));
            }
        }
        for (int w = 0; w < park.count(3); w++) {
            b.append(" walker");
            for (int what : WALKER_WHATS) {
                b.append(' ').append(park.walker(w, what));
            }
        }
        for (int t = 0; t < 4; t++) {
            b.append(" tray");
            for (int what = 0; what <= 3; what++) {
                int tray = t;
                int of = what;
                b.append(' ').append(Check.outcome(() -> park.judge(tray, of)));
            }
        }
        return b.toString();
    }

    /** And what was ahead of each deed that can be undone; image 2 is used for it. */
    static String back(HedgePark park) {
        StringBuilder b = new StringBuilder(at(park));
        park.image(2);
        while (park.count(8) > 0) {
            park.undo(1);
            b.append("\nahead: ").append(at(park));
        }
        park.restore(2);
        return b.toString();
    }
}
