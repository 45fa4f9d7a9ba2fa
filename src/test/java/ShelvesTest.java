/** Promises 1 to 8: a new object, and the shelves. */
public final class ShelvesTest {
    private static final Check CHECK = new Check("ShelvesTest");
    private static final int BYTE = 0;
    private static final int SHORT = 1;
    private static final int INT = 2;
    private static final int LONG = 3;
    private static final int BOOLEAN = 4;

    public static void main(String[] args) {
        promise1();
        promise2();
        promise3();
        promise3Sorts();
        promise4();
        promise4Refusals();
        promise5();
        promise6();
        promise7();
        promise8();
        promise8Refusals();
        CHECK.close();
    }

    private static void promise1() {
        ThrownRosesReturn x = new ThrownRosesReturn();
        int[] due = {0, 0, 12, 5, 0, 40, 0, 0, 0, 1, 0, -1, 0, 0, 0, 0, 0};
        for (int what = 0; what < due.length; what++) {
            CHECK.due("1: status(" + what + ")", x.status(what), due[what]);
        }
        for (int s = 0; s < 8; s++) {
            CHECK.due("1: holds", x.holds(s), Town.NONE);
        }
        CHECK.due("1: NONE", ThrownRosesReturn.NONE, -1);
        CHECK.due("1: wipe", x.wipe(), 0);
        CHECK.due("1: gaps", x.gaps(), 4095);
        CHECK.refused("1: windowOf", x, () -> x.windowOf(0, 0), Town.BAD);
        CHECK.refused("1: personOf", x, () -> x.personOf(0, 0), Town.BAD);
    }

    private static void promise2() {
        ThrownRosesReturn x = new ThrownRosesReturn();
        for (int sort = 0; sort <= 4; sort++) {
            CHECK.due("2: row", x.row(sort, sort, 40), 1);
            CHECK.due("2: holds", x.holds(sort), sort);
        }
        CHECK.due("2: row of none", x.row(7, 0, 0), 1);
        CHECK.due("2: holds", x.holds(7), 0);
        CHECK.refused("2: no element", x, () -> x.set(7, 0, 1), Town.BAD);
        CHECK.due("2: last element", x.set(0, 39, 5), 1);
        CHECK.due("2: first element", x.set(0, 0, 5), 1);
        CHECK.due("2: a new row", x.row(0, 0, 40), 1);
        CHECK.due("2: is all 0", x.element(0, 39), 0);
        CHECK.due("2: is all 0", x.element(0, 0), 0);
        x.set(0, 39, 5);
        x.row(0, 0, 3);
        x.row(0, 0, 40);
        CHECK.due("2: is all 0 after a short one", x.element(0, 39), 0);
        x.person(0, 0, 0);
        x.show(6, 0);
        CHECK.due("2: over one of the people", x.row(6, 2, 1), 1);
        CHECK.due("2: holds", x.holds(6), 2);
        CHECK.due("2: is a row", x.set(6, 0, 3), 1);
        CHECK.refused("2: shelf -1", x, () -> x.row(-1, 0, 1), Town.BAD);
        CHECK.refused("2: shelf 8", x, () -> x.row(8, 0, 1), Town.BAD);
        CHECK.refused("2: sort -1", x, () -> x.row(5, -1, 1), Town.BAD);
        CHECK.refused("2: sort 5", x, () -> x.row(5, 5, 1), Town.BAD);
        CHECK.refused("2: n -1", x, () -> x.row(5, 0, -1), Town.BAD);
        CHECK.refused("2: n 41", x, () -> x.row(5, 0, 41), Town.BAD);
        CHECK.due("2: nothing came", x.holds(5), Town.NONE);
    }

    private static void promise3() {
        ThrownRosesReturn x = new ThrownRosesReturn();
        x.person(0, 0, 0);
        x.row(0, LONG, 3);
        x.show(1, 0);
        CHECK.due("3: set", x.set(0, 2, -77), 1);
        CHECK.due("3: element", x.element(0, 2), -77);
        CHECK.due("3: the others", x.element(0, 1), 0);
        CHECK.refused("3: shelf -1", x, () -> x.set(-1, 0, 1), Town.BAD);
        CHECK.refused("3: shelf 8", x, () -> x.set(8, 0, 1), Town.BAD);
        CHECK.refused("3: OTHER ahead of i", x, () -> x.set(1, -1, 1), Town.OTHER);
        CHECK.refused("3: NOTHING ahead of i", x, () -> x.set(2, -1, 1), Town.NOTHING);
        CHECK.refused("3: i -1", x, () -> x.set(0, -1, 1), Town.BAD);
        CHECK.refused("3: i 3", x, () -> x.set(0, 3, 1), Town.BAD);
        CHECK.due("3: as it was", x.element(0, 2), -77);
    }

    private static void promise3Sorts() {
        ThrownRosesReturn x = new ThrownRosesReturn();
        long[] put = {127, 128, 255, 256, -129, 0x12345678_9ABCDEF0L, 1L << 40, 0, -1, 32768, 1L << 31};
        long[][] due = {
            {127, -128, -1, 0, 127, (byte) 0xF0, 0, 0, -1, 0, 0},
            {127, 128, 255, 256, -129, (short) 0xDEF0, 0, 0, -1, -32768, 0},
            {127, 128, 255, 256, -129, 0x9ABCDEF0, 0, 0, -1, 32768, -(1L << 31)},
            put,
            {1, 1, 1, 1, 1, 1, 1, 0, 1, 1, 1},
        };
        for (int sort = 0; sort <= 4; sort++) {
            Town.lay(x, sort, sort, put);
            for (int i = 0; i < put.length; i++) {
                CHECK.due("3: sort " + sort + " of " + put[i], x.element(sort, i), due[sort][i]);
            }
        }
        x.set(BOOLEAN, 0, 0);
        CHECK.due("3: boolean back to 0", x.element(BOOLEAN, 0), 0);
    }

    private static void promise4() {
        ThrownRosesReturn x = new ThrownRosesReturn();
        Town.lay(x, 0, INT, 1, 2, 3, 4, 5);
        Town.lay(x, 1, INT, 9, 9, 9);
        CHECK.due("4: copy", x.copy(0, 1, 3, 1, 2), 2);
        rowIs(x, "4: to", 1, 9, 4, 5);
        rowIs(x, "4: from", 0, 1, 2, 3, 4, 5);
        CHECK.due("4: up", x.copy(0, 0, 0, 1, 4), 4);
        rowIs(x, "4: overlapping up", 0, 1, 1, 2, 3, 4);
        CHECK.due("4: down", x.copy(0, 0, 1, 0, 4), 4);
        rowIs(x, "4: overlapping down", 0, 1, 2, 3, 4, 4);
        CHECK.due("4: none", x.copy(0, 1, 5, 3, 0), 0);
        CHECK.due("4: all", x.copy(0, 0, 0, 0, 5), 5);
        rowIs(x, "4: onto itself", 0, 1, 2, 3, 4, 4);
    }

    private static void promise4Refusals() {
        ThrownRosesReturn x = new ThrownRosesReturn();
        x.person(0, 0, 0);
        Town.lay(x, 0, INT, 1, 2, 3);
        Town.lay(x, 1, LONG, 4, 5);
        Town.lay(x, 5, INT, 6, 7);
        x.show(2, 0);
        CHECK.refused("4: shelf p", x, () -> x.copy(-1, 2, 0, 0, 1), Town.BAD);
        CHECK.refused("4: shelf q", x, () -> x.copy(2, 8, 0, 0, 1), Town.BAD);
        CHECK.refused("4: one of the people", x, () -> x.copy(2, 0, 0, 0, -1), Town.OTHER);
        CHECK.refused("4: to one of the people", x, () -> x.copy(0, 2, 0, 0, -1), Town.OTHER);
        CHECK.refused("4: OTHER ahead of NOTHING", x, () -> x.copy(3, 2, 0, 0, 1), Town.OTHER);
        CHECK.refused("4: two sorts", x, () -> x.copy(0, 1, 0, 0, -1), Town.OTHER);
        CHECK.refused("4: nothing there", x, () -> x.copy(3, 0, -1, 0, 1), Town.NOTHING);
        CHECK.refused("4: to nothing", x, () -> x.copy(0, 3, -1, 0, 1), Town.NOTHING);
        CHECK.refused("4: both nothing", x, () -> x.copy(3, 4, 0, 0, 1), Town.NOTHING);
        CHECK.refused("4: i -1", x, () -> x.copy(0, 5, -1, 0, 1), Town.BAD);
        CHECK.refused("4: j -1", x, () -> x.copy(0, 5, 0, -1, 1), Town.BAD);
        CHECK.refused("4: n -1", x, () -> x.copy(0, 5, 1, 1, -1), Town.BAD);
        CHECK.refused("4: too far from i", x, () -> x.copy(0, 5, 2, 0, 2), Town.BAD);
        CHECK.refused("4: too far from j", x, () -> x.copy(0, 5, 0, 1, 2), Town.BAD);
        CHECK.refused("4: i wraps", x, () -> x.copy(0, 5, Integer.MAX_VALUE, 0, 1), Town.BAD);
        CHECK.refused("4: j wraps", x, () -> x.copy(0, 5, 0, Integer.MAX_VALUE, 1), Town.BAD);
        CHECK.refused("4: n wraps", x, () -> x.copy(0, 5, 1, 1, Integer.MAX_VALUE), Town.BAD);
        CHECK.refused("4: i past the end", x, () -> x.copy(0, 5, 4, 0, 0), Town.BAD);
        rowIs(x, "4: as it was", 5, 6, 7);
    }

    private static void rowIs(ThrownRosesReturn x, String what, int s, long... elements) {
        for (int i = 0; i < elements.length; i++) {
            CHECK.due(what + " element " + i, x.element(s, i), elements[i]);
        }
    }

    private static void promise5() {
        ThrownRosesReturn x = new ThrownRosesReturn();
        x.person(0, 9, 0);
        Town.lay(x, 0, SHORT, 7, 8);
        Town.lay(x, 7, BYTE, 3);
        x.show(1, 0);
        CHECK.due("5: first", x.element(0, 0), 7);
        CHECK.due("5: last", x.element(0, 1), 8);
        CHECK.due("5: shelf 7", x.element(7, 0), 3);
        CHECK.unrefused("5: i 2", x, () -> x.element(0, 2), 0);
        CHECK.unrefused("5: i -1", x, () -> x.element(0, -1), 0);
        CHECK.unrefused("5: one of the people", x, () -> x.element(1, 0), 0);
        CHECK.unrefused("5: nothing", x, () -> x.element(2, 0), 0);
        CHECK.unrefused("5: shelf -1", x, () -> x.element(-1, 0), 0);
        CHECK.unrefused("5: shelf 8", x, () -> x.element(8, 0), 0);
        x.row(0, SHORT, 1);
        CHECK.due("5: of a shorter row", x.element(0, 1), 0);
        x.set(0, 0, 5);
        x.show(0, 0);
        CHECK.due("5: no row any more", x.element(0, 0), 0);
    }

    private static void promise6() {
        ThrownRosesReturn x = Town.built();
        x.row(0, BOOLEAN, 0);
        x.show(1, 0);
        x.show(2, 5);
        CHECK.due("6: row", x.holds(0), 4);
        CHECK.due("6: one of the people", x.holds(1), 10);
        CHECK.due("6: another", x.holds(2), 15);
        CHECK.unrefused("6: nothing", x, () -> x.holds(3), Town.NONE);
        CHECK.unrefused("6: shelf -1", x, () -> x.holds(-1), Town.NONE);
        CHECK.unrefused("6: shelf 8", x, () -> x.holds(8), Town.NONE);
    }

    private static void promise7() {
        ThrownRosesReturn x = Town.built();
        CHECK.due("7: show", x.show(0, 5), 1);
        CHECK.due("7: holds", x.holds(0), 15);
        CHECK.due("7: nobody", x.show(0, Town.NONE), 1);
        CHECK.due("7: holds", x.holds(0), Town.NONE);
        x.row(0, BYTE, 1);
        CHECK.due("7: nobody over a row", x.show(0, Town.NONE), 1);
        CHECK.due("7: holds", x.holds(0), Town.NONE);
        x.row(0, BYTE, 1);
        CHECK.due("7: over a row", x.show(0, 2), 1);
        CHECK.due("7: holds", x.holds(0), 12);
        CHECK.due("7: on two shelves", x.show(7, 2), 1);
        CHECK.due("7: holds", x.holds(7), 12);
        CHECK.refused("7: shelf -1", x, () -> x.show(-1, 0), Town.BAD);
        CHECK.refused("7: shelf 8", x, () -> x.show(8, Town.NONE), Town.BAD);
        CHECK.refused("7: person 6", x, () -> x.show(0, 6), Town.BAD);
        CHECK.refused("7: person -2", x, () -> x.show(0, -2), Town.BAD);
        CHECK.due("7: as it was", x.holds(0), 12);
    }

    private static void promise8() {
        ThrownRosesReturn x = Town.built();
        for (int p = 0; p < 6; p++) {
            x.show(p, p);
        }
        int[] as = {4, 2, 7, 9, 1, 0};
        int[] slow = {4, 7, 3, 26, 0, 10};
        int[] above = {0, 0, 0, 1, 2, 0};
        for (int p = 0; p < 6; p++) {
            CHECK.due("8: as CATCHER " + p, x.says(p, 0), as[p]);
            if (p > 0) {
                CHECK.due("8: by his kind " + p, x.says(p, p), slow[p]);
            }
        }
        CHECK.due("8: TIMID as SHY", x.says(3, above[3]), 26);
        CHECK.due("8: RAKE as BOLD", x.says(4, above[4]), 0);
    }

    private static void promise8Refusals() {
        ThrownRosesReturn x = Town.built();
        int[][] fits = {{0}, {0, 1}, {0, 2}, {0, 1, 3}, {0, 2, 4}, {0, 5}};
        for (int p = 0; p < 6; p++) {
            x.show(0, p);
            for (int kind = 0; kind < 6; kind++) {
                int wanted = kind;
                if (java.util.Arrays.stream(fits[p]).noneMatch(k -> k == wanted)) {
                    CHECK.refused("8: " + p + " as " + kind, x, () -> x.says(0, wanted), Town.OTHER);
                }
            }
        }
        x.row(1, BYTE, 1);
        CHECK.refused("8: shelf -1", x, () -> x.says(-1, 0), Town.BAD);
        CHECK.refused("8: shelf 8", x, () -> x.says(8, 0), Town.BAD);
        CHECK.refused("8: kind -1", x, () -> x.says(1, -1), Town.BAD);
        CHECK.refused("8: kind 6", x, () -> x.says(2, 6), Town.BAD);
        CHECK.refused("8: a row", x, () -> x.says(1, 0), Town.OTHER);
        CHECK.refused("8: nothing", x, () -> x.says(2, 0), Town.NOTHING);
    }
}
