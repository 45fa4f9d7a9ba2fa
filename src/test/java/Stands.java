/** Streets that refused calls are tried on, and all that can be told of how one stands. */
final class Stands {
    private Stands() {
    }

    /**
     * Town with 13 cells, wind 6, day 2, Lent 50; people 0 and 2 have roses of windows 0 and 2, due on 4 and 5; an
     * image from ahead of all that but the first rose. Shelves: 0 longs 0, 5, 101; 1 ints 7, 8, 9; 2 person 1;
     * 3 nothing; 4 booleans 1, 0, 1; 5 a row of no longs; 6 and 7 nothing. 'day 7' is on the tape.
     */
    static ThrownRosesReturn busy() {
        ThrownRosesReturn x = Town.built();
        x.thrown(0, 0, 0);
        x.image();
        x.paves(13);
        x.tell(0, 6);
        x.tell(1, 2);
        x.tell(2, 50);
        x.thrown(2, 2, 2);
        x.seed(99);
        Town.lay(x, 0, 3, 0, 5, 101);
        Town.lay(x, 1, 2, 7, 8, 9);
        x.show(2, 1);
        Town.lay(x, 4, 4, 1, 0, 1);
        x.row(5, 3, 0);
        Town.feed(x, "day 7");
        return x;
    }

    /** As busy, with all kept as it stands. */
    static ThrownRosesReturn busyAndKept() {
        ThrownRosesReturn x = busy();
        x.image();
        return x;
    }

    /** No room for a window or for one of the people; otherwise as on a new object. */
    static ThrownRosesReturn full() {
        ThrownRosesReturn x = new ThrownRosesReturn();
        for (int i = 0; i < 8; i++) {
            x.window(i, 1 + i % 5, i);
            x.person(i % 6, i, i);
        }
        return x;
    }

    /** A full tape, with a fault in its last byte. */
    static ThrownRosesReturn fullTape() {
        ThrownRosesReturn x = new ThrownRosesReturn();
        Town.feed(x, "day 7" + " ".repeat(244) + "x");
        return x;
    }

    /** 30 cells, one window, and nobody. */
    static ThrownRosesReturn under(int cell, int floor) {
        ThrownRosesReturn x = new ThrownRosesReturn();
        x.paves(30);
        x.window(cell, floor, 0);
        return x;
    }

    /** Town with a row of longs in shelf 0. */
    static ThrownRosesReturn withRow(long... elements) {
        ThrownRosesReturn x = Town.built();
        Town.lay(x, 0, 3, elements);
        return x;
    }

    /** One of the people and a row of two longs, but nothing to throw from. */
    static ThrownRosesReturn noWindows() {
        ThrownRosesReturn x = new ThrownRosesReturn();
        x.person(0, 4, 5);
        x.row(0, 3, 2);
        return x;
    }

    /** All that can be told, but for the refusals; the tape, the shelves and the image are spent over it. */
    static String told(ThrownRosesReturn x) {
        StringBuilder told = new StringBuilder();
        tellStreet(x, told);
        for (int s = 0; s < 8; s++) {
            told.append(" shelf ").append(x.holds(s));
            for (int i = 0; i < 4; i++) {
                told.append(' ').append(x.element(s, i));
            }
            told.append(" sized ").append(x.set(s, 2, 1)).append(' ').append(x.set(s, 3, 1));
        }
        told.append("\ntape ").append(x.street());
        tellStreet(x, told);
        told.append("\nback ").append(x.back());
        tellStreet(x, told);
        return told.toString();
    }

    private static void tellStreet(ThrownRosesReturn x, StringBuilder told) {
        told.append("\nstatus");
        for (int what = 0; what <= 10; what++) {
            told.append(' ').append(x.status(what));
        }
        told.append("\nwindows");
        for (int w = 0; w < x.status(1); w++) {
            for (int what = 0; what < 3; what++) {
                told.append(' ').append(x.windowOf(w, what));
            }
        }
        told.append("\npeople");
        for (int p = 0; p < x.status(0); p++) {
            for (int what = 0; what < 6; what++) {
                told.append(' ').append(x.personOf(p, what));
            }
        }
    }
}
