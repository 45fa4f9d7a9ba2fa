/**
 * The street that most tests are reckoned on by hand; 12 cells, no wind, day 0, Lent 40.
 *
 * Windows: 0 at cell 5, floor 3, thorns 4 (so each force is as many cells); 1 at cell 0, floor 1, thorns 4;
 * 2 at cell 11, floor 5, thorns 9 (forces 0 to 9 go 0 1 3 5 6 8 10 11 13 15 cells).
 * People: 0 CATCHER a 4 at 5; 1 SHY a 2 at 2; 2 BOLD a 7 at 8; 3 TIMID a 9 at 5; 4 RAKE a 1 at 1; 5 HORSE a 0 at 0.
 * So cells 0 to 11 are caught in by 4 4 1 4 0 0 0 2 2 2 2 and, the last, by nobody.
 */
final class Town {
    static final int NONE = ThrownRosesReturn.NONE;
    static final int BAD = -2;
    static final int OTHER = -3;
    static final int NOTHING = -4;
    static final int STUCK = -5;
    static final int FULL = -6;

    private Town() {
    }

    static ThrownRosesReturn built() {
        ThrownRosesReturn x = new ThrownRosesReturn();
        x.window(5, 3, 4);
        x.window(0, 1, 4);
        x.window(11, 5, 9);
        x.person(0, 4, 5);
        x.person(1, 2, 2);
        x.person(2, 7, 8);
        x.person(3, 9, 5);
        x.person(4, 1, 1);
        x.person(5, 0, 0);
        return x;
    }

    static int feed(ThrownRosesReturn x, String text) {
        int size = x.status(8);
        for (int i = 0; i < text.length(); i++) {
            size = x.feed(text.charAt(i));
        }
        return size;
    }

    static int read(ThrownRosesReturn x, String text) {
        feed(x, text);
        return x.street();
    }

    /** Shelf s holds a row of a sort with just these elements. */
    static void lay(ThrownRosesReturn x, int s, int sort, long... elements) {
        x.row(s, sort, elements.length);
        for (int i = 0; i < elements.length; i++) {
            x.set(s, i, elements[i]);
        }
    }
}
