/** The lines of promises 1 to 8, by sentences. */
final class ShelfPromises {
    private ShelfPromises() {
    }

    static void test(Sentences t) {
        aNewObject(t);
        row(t);
        set(t);
        copy(t);
        copyRefusals(t);
        element(t);
        holds(t);
        show(t);
        says(t);
        saysRefusals(t);
    }

    private static void aNewObject(Sentences t) {
        t.promise(1, "12 CELLS, no WINDOWS, no PEOPLE;", () -> {
            ThrownRosesReturn x = new ThrownRosesReturn();
            int[] due = {0, 0, 12, 5, 0, 40, 0, 0};
            for (int what = 0; what < due.length; what++) {
                t.due("status(" + what + ")", x.status(what), due[what]);
            }
            t.due("seed", x.status(9), 1);
            for (int what = 12; what <= 16; what++) {
                t.due("refusals " + what, x.status(what), 0);
            }
            t.refused("window 0", ThrownRosesReturn::new, y -> y.windowOf(0, 0), Town.BAD);
            t.refused("person 0", ThrownRosesReturn::new, y -> y.personOf(0, 0), Town.BAD);
            t.due("nothing is kept", x.back(), Town.STUCK);
        });
        t.promise(1, "SHELVES hold NOTHING;", () -> {
            ThrownRosesReturn x = new ThrownRosesReturn();
            for (int s = 0; s < 8; s++) {
                t.due("holds(" + s + ")", x.holds(s), Town.NONE);
            }
            t.due("none of them", x.status(10), 0);
        });
        t.promise(1, "THE TAPE is empty.", () -> {
            ThrownRosesReturn x = new ThrownRosesReturn();
            t.due("its size", x.status(8), 0);
            t.due("wiped", x.wipe(), 0);
            t.due("read", x.street(), -20);
        });
    }

    private static void row(Sentences t) {
        t.promise(2, "SHELF s holds a new ROW: 1.", () -> {
            ThrownRosesReturn x = Stands.busy();
            t.taken("over a row", x, () -> x.row(0, 2, 3), 1);
            t.due("of another sort", x.holds(0), 2);
            for (int i = 0; i < 3; i++) {
                t.due("is new", x.element(0, i), 0);
            }
            t.taken("over one of the people", x, () -> x.row(2, 4, 2), 1);
            t.due("is a row", x.holds(2), 4);
            t.due("can be set", x.set(2, 1, 1), 1);
            t.due("says nothing", x.says(2, 0), Town.OTHER);
            t.taken("over nothing", x, () -> x.row(7, 0, 40), 1);
            t.due("is a row", x.holds(7), 0);
            x.set(7, 0, 5);
            x.set(7, 39, 5);
            x.row(7, 0, 1);
            t.due("the first is new", x.element(7, 0), 0);
            x.row(7, 0, 40);
            t.due("the last is new behind a shorter one", x.element(7, 39), 0);
        });
        t.promise(2, "BAD.", () -> {
            t.bad("shelf", Stands::busy, (x, s) -> x.row(s, 0, 1), -1, 8);
            t.bad("sort", Stands::busy, (x, sort) -> x.row(0, sort, 1), -1, 5);
            t.bad("n", Stands::busy, (x, n) -> x.row(0, 3, n), -1, 41);
        });
    }

    private static void set(Sentences t) {
        t.promise(3, "Element i of the ROW in SHELF s becomes v: 1.", () -> {
            ThrownRosesReturn x = new ThrownRosesReturn();
            x.row(7, 3, 40);
            t.taken("the first", x, () -> x.set(7, 0, Long.MIN_VALUE), 1);
            t.taken("the last", x, () -> x.set(7, 39, Long.MAX_VALUE), 1);
            t.due("the first", x.element(7, 0), Long.MIN_VALUE);
            t.due("the last", x.element(7, 39), Long.MAX_VALUE);
            t.due("no other", x.element(7, 1), 0);
            t.due("no other", x.element(7, 38), 0);
        });
        t.promise(3, "BAD SHELF;", () -> t.bad("shelf", Stands::busy, (x, s) -> x.set(s, 0, 1), -1, 8));
        t.promise(3, "OTHER;", () -> {
            t.refused("one of the people", Stands::busy, x -> x.set(2, 0, 1), Town.OTHER);
            t.refused("ahead of a bad i", Stands::busy, x -> x.set(2, -1, 1), Town.OTHER);
        });
        t.promise(3, "NOTHING;", () -> {
            t.refused("nothing", Stands::busy, x -> x.set(3, 0, 1), Town.NOTHING);
            t.refused("ahead of a bad i", Stands::busy, x -> x.set(3, -1, 1), Town.NOTHING);
        });
        t.promise(3, "BAD i.", () -> {
            t.bad("i", Stands::busy, (x, i) -> x.set(0, i, 1), -1, 3);
            t.bad("i of no elements", Stands::busy, (x, i) -> x.set(5, i, 1), -1, 0);
        });
    }

    private static void rowIs(Sentences t, ThrownRosesReturn x, int s, long... due) {
        for (int i = 0; i < due.length; i++) {
            t.due("element " + i + " of " + s, x.element(s, i), due[i]);
        }
    }

    private static void copy(Sentences t) {
        t.promise(4, "n elements of the ROW in SHELF p from place i on come to places j on of that in q (as they were): n.",
                () -> {
            ThrownRosesReturn x = new ThrownRosesReturn();
            Town.lay(x, 0, 3, 1, 2, 3, 4);
            Town.lay(x, 7, 3, 5, 6, 7);
            t.taken("the last to the first", x, () -> x.copy(0, 7, 3, 0, 1), 1);
            rowIs(t, x, 7, 4, 6, 7);
            t.taken("the first to the last", x, () -> x.copy(0, 7, 0, 2, 1), 1);
            rowIs(t, x, 7, 4, 6, 1);
            t.taken("none", x, () -> x.copy(0, 7, 0, 0, 0), 0);
            rowIs(t, x, 7, 4, 6, 1);
            t.taken("as many as there are", x, () -> x.copy(0, 7, 1, 0, 3), 3);
            rowIs(t, x, 7, 2, 3, 4);
            rowIs(t, x, 0, 1, 2, 3, 4);
            t.taken("up in one row, as they were", x, () -> x.copy(0, 0, 0, 1, 3), 3);
            rowIs(t, x, 0, 1, 1, 2, 3);
            t.taken("down in one row, as they were", x, () -> x.copy(0, 0, 1, 0, 3), 3);
            rowIs(t, x, 0, 1, 2, 3, 3);
            t.taken("all onto itself", x, () -> x.copy(0, 0, 0, 0, 4), 4);
            rowIs(t, x, 0, 1, 2, 3, 3);
            x.row(1, 3, 40);
            x.row(2, 3, 40);
            x.set(1, 39, 9);
            t.taken("forty", x, () -> x.copy(1, 2, 0, 0, 40), 40);
            t.due("the last of forty", x.element(2, 39), 9);
            x.row(3, 3, 0);
            t.taken("none of none", x, () -> x.copy(3, 3, 0, 0, 0), 0);
        });
        t.promise(4, "BAD SHELVES;", () -> {
            t.bad("shelf p", Stands::busy, (x, p) -> x.copy(p, 0, 0, 0, 1), -1, 8);
            t.bad("shelf q", Stands::busy, (x, q) -> x.copy(0, q, 0, 0, 1), -1, 8);
            t.bad("shelf p, ahead of OTHER", Stands::busy, (x, p) -> x.copy(p, 2, 0, 0, 1), -1, 8);
            t.bad("shelf q, ahead of OTHER", Stands::busy, (x, q) -> x.copy(2, q, 0, 0, 1), -1, 8);
            t.bad("shelf p, ahead of NOTHING", Stands::busy, (x, p) -> x.copy(p, 3, 0, 0, 1), -1, 8);
            t.bad("shelf q, ahead of NOTHING", Stands::busy, (x, q) -> x.copy(3, q, 0, 0, 1), -1, 8);
        });
    }

    private static void copyRefusals(Sentences t) {
        t.promise(4, "OTHER (also ROWS of two SORTS, if both hold something);", () -> {
            t.refused("one of the people in p", Stands::busy, x -> x.copy(2, 0, 0, 0, 1), Town.OTHER);
            t.refused("one of the people in q", Stands::busy, x -> x.copy(0, 2, 0, 0, 1), Town.OTHER);
            t.refused("in both", Stands::busy, x -> x.copy(2, 2, 0, 0, 0), Town.OTHER);
            t.refused("in p, ahead of NOTHING in q", Stands::busy, x -> x.copy(2, 3, 0, 0, 1), Town.OTHER);
            t.refused("in q, ahead of NOTHING in p", Stands::busy, x -> x.copy(3, 2, 0, 0, 1), Town.OTHER);
            t.refused("in p, ahead of a bad n", Stands::busy, x -> x.copy(2, 0, -1, -1, -1), Town.OTHER);
            t.refused("longs to ints", Stands::busy, x -> x.copy(0, 1, 0, 0, 1), Town.OTHER);
            t.refused("ints to longs", Stands::busy, x -> x.copy(1, 0, 0, 0, 1), Town.OTHER);
            t.refused("two sorts, though none come", Stands::busy, x -> x.copy(0, 1, 0, 0, 0), Town.OTHER);
            t.refused("two sorts, ahead of a bad n", Stands::busy, x -> x.copy(0, 1, 9, 9, -1), Town.OTHER);
            t.refused("to a row of none of another sort", Stands::busy, x -> x.copy(1, 5, 0, 0, 1), Town.OTHER);
        });
        t.promise(4, "NOTHING;", () -> {
            t.refused("in p", Stands::busy, x -> x.copy(3, 0, 0, 0, 1), Town.NOTHING);
            t.refused("in q", Stands::busy, x -> x.copy(0, 3, 0, 0, 1), Town.NOTHING);
            t.refused("in both", Stands::busy, x -> x.copy(3, 3, 0, 0, 0), Town.NOTHING);
            t.refused("ahead of a bad i", Stands::busy, x -> x.copy(3, 0, -1, 0, 1), Town.NOTHING);
            t.refused("ahead of a bad n", Stands::busy, x -> x.copy(0, 3, 0, 0, -1), Town.NOTHING);
        });
        t.promise(4, "BAD the others.", () -> {
            t.bad("i", Stands::busy, (x, i) -> x.copy(0, 0, i, 0, 1), -1, 3);
            t.bad("j", Stands::busy, (x, j) -> x.copy(0, 0, 0, j, 1), -1, 3);
            t.bad("n", Stands::busy, (x, n) -> x.copy(0, 0, 0, 0, n), -1, 4);
            t.bad("n from further on", Stands::busy, (x, n) -> x.copy(0, 0, 1, 0, n), -1, 3);
            t.bad("n to further on", Stands::busy, (x, n) -> x.copy(0, 0, 0, 2, n), -1, 2);
            t.bad("i, though none come", Stands::busy, (x, i) -> x.copy(0, 0, i, 0, 0), -1, 4);
            t.bad("j, though none come", Stands::busy, (x, j) -> x.copy(0, 0, 0, j, 0), -1, 4);
            t.bad("n of a row of none", Stands::busy, (x, n) -> x.copy(5, 5, 0, 0, n), -1, 1);
            t.bad("n to a row of none", Stands::busy, (x, n) -> x.copy(0, 5, 0, 0, n), -1, 1);
            t.bad("n of a row of none to another", Stands::busy, (x, n) -> x.copy(5, 0, 0, 0, n), -1, 1);
            t.bad("i and n together", Stands::busy, (x, i) -> x.copy(0, 0, i, 0, Integer.MAX_VALUE), 1, 3);
            t.bad("j and n together", Stands::busy, (x, j) -> x.copy(0, 0, 0, j, Integer.MAX_VALUE), 1, 3);
        });
    }

    private static void element(Sentences t) {
        t.promise(5, "Element i of the ROW;", () -> {
            ThrownRosesReturn x = new ThrownRosesReturn();
            x.row(0, 0, 1);
            x.row(7, 3, 40);
            x.set(0, 0, 5);
            x.set(7, 39, 1L << 40);
            t.taken("the one", x, () -> x.element(0, 0), 5);
            t.taken("the last", x, () -> x.element(7, 39), 1L << 40);
        });
        t.promise(5, "0: none, no ROW (nothing is refused).", () -> {
            ThrownRosesReturn x = Stands.busy();
            for (int i : new int[] {-1, 3, 40, Integer.MIN_VALUE, Integer.MAX_VALUE}) {
                t.taken("no element " + i, x, () -> x.element(1, i), 0);
            }
            t.taken("of a row of none", x, () -> x.element(5, 0), 0);
            t.taken("of one of the people", x, () -> x.element(2, 0), 0);
            t.taken("of nothing", x, () -> x.element(3, 0), 0);
            for (int s : new int[] {-1, 8, Integer.MIN_VALUE, Integer.MAX_VALUE}) {
                t.taken("of no shelf " + s, x, () -> x.element(s, 0), 0);
            }
            x.row(1, 2, 2);
            t.taken("of a shorter row", x, () -> x.element(1, 2), 0);
            x.set(1, 0, 5);
            x.show(1, 0);
            t.taken("of what was a row", x, () -> x.element(1, 0), 0);
        });
    }

    private static void holds(Sentences t) {
        t.promise(6, "What SHELF s holds: NONE NOTHING, no SHELF;", () -> {
            ThrownRosesReturn x = Stands.busy();
            t.taken("nothing", x, () -> x.holds(3), Town.NONE);
            x.show(0, Town.NONE);
            t.taken("nothing any more", x, () -> x.holds(0), Town.NONE);
            for (int s : new int[] {-1, 8, Integer.MIN_VALUE, Integer.MAX_VALUE}) {
                t.taken("no shelf " + s, x, () -> x.holds(s), Town.NONE);
            }
        });
        t.promise(6, "0 to 4 a ROW by its SORT;", () -> {
            ThrownRosesReturn x = new ThrownRosesReturn();
            for (int sort = 0; sort <= 4; sort++) {
                int one = sort;
                x.row(sort + 3, sort, 0);
                t.taken("sort " + sort, x, () -> x.holds(one + 3), sort);
            }
        });
        t.promise(6, "10 and the number of one of the PEOPLE.", () -> {
            ThrownRosesReturn x = Stands.full();
            for (int p = 0; p < 8; p++) {
                int one = p;
                x.show(7 - p, p);
                t.taken("person " + p, x, () -> x.holds(7 - one), 10 + p);
            }
        });
    }

    private static void show(Sentences t) {
        t.promise(7, "SHELF s holds one of the PEOPLE, or NOTHING (person NONE): 1.", () -> {
            ThrownRosesReturn x = Stands.full();
            t.taken("the first on the first", x, () -> x.show(0, 0), 1);
            t.due("is held", x.holds(0), 10);
            t.taken("the last on the last", x, () -> x.show(7, 7), 1);
            t.due("is held", x.holds(7), 17);
            t.taken("on another too", x, () -> x.show(0, 7), 1);
            t.due("is held", x.holds(0), 17);
            t.taken("nothing", x, () -> x.show(7, Town.NONE), 1);
            t.due("nothing is held", x.holds(7), Town.NONE);
            t.taken("nothing again", x, () -> x.show(7, Town.NONE), 1);
            x.row(7, 3, 2);
            t.taken("over a row", x, () -> x.show(7, 1), 1);
            t.due("is held", x.holds(7), 11);
            x.row(7, 3, 2);
            t.taken("nothing over a row", x, () -> x.show(7, Town.NONE), 1);
            t.due("nothing is held", x.holds(7), Town.NONE);
            ThrownRosesReturn y = new ThrownRosesReturn();
            t.taken("nothing, though nobody is there", y, () -> y.show(0, Town.NONE), 1);
        });
        t.promise(7, "BAD.", () -> {
            t.bad("shelf", Stands::busy, (x, s) -> x.show(s, 0), -1, 8);
            t.bad("shelf for nothing", Stands::busy, (x, s) -> x.show(s, Town.NONE), -1, 8);
            t.bad("person", Stands::busy, (x, person) -> x.show(0, person), -2, 6);
            t.bad("person of none", ThrownRosesReturn::new, (x, person) -> x.show(0, person), -2, 0);
        });
    }

    private static void says(Sentences t) {
        t.promise(8, "What the one in SHELF s, taken for one of a KIND, says: CATCHER his a;", () -> {
            ThrownRosesReturn x = new ThrownRosesReturn();
            for (int kind = 0; kind < 6; kind++) {
                int a = kind == 5 ? 9 : kind;
                x.person(kind, a, 0);
                x.show(7, kind);
                t.taken("kind " + kind, x, () -> x.says(7, 0), a);
            }
        });
        t.promise(8, "SHY, TIMID, BOLD, RAKE, HORSE how SLOW he is with a ROSE of a WINDOW of FLOOR 5, by his own KIND.", () -> {
            int[][] due = {{1, 1, 3, 21}, {3, 1, 8, 26}, {3, 3, 8, 26}, {2, 2, 0, 4}, {4, 2, 0, 0}, {4, 4, 0, 0}, {5, 5, 10, 19}};
            for (int[] row : due) {
                ThrownRosesReturn x = new ThrownRosesReturn();
                x.person(row[0], 0, 0);
                x.person(row[0], 9, 0);
                x.show(0, 0);
                x.show(7, 1);
                t.taken("kind " + row[0] + " taken for " + row[1] + ", a 0", x, () -> x.says(0, row[1]), row[2]);
                t.taken("kind " + row[0] + " taken for " + row[1] + ", a 9", x, () -> x.says(7, row[1]), row[3]);
            }
        });
    }

    private static void saysRefusals(Sentences t) {
        t.promise(8, "BAD SHELF, KIND;", () -> {
            t.bad("shelf", Stands::busy, (x, s) -> x.says(s, 0), -1, 8);
            t.bad("kind", Stands::busy, (x, kind) -> x.says(2, kind), -1, 6);
            t.bad("kind, ahead of OTHER", Stands::busy, (x, kind) -> x.says(0, kind), -1, 6);
            t.bad("kind, ahead of NOTHING", Stands::busy, (x, kind) -> x.says(3, kind), -1, 6);
        });
        t.promise(8, "OTHER (also if he is of no such KIND nor of one under it);", () -> {
            t.refused("a row", Stands::busy, x -> x.says(0, 0), Town.OTHER);
            t.refused("a row of none", Stands::busy, x -> x.says(5, 1), Town.OTHER);
            for (int kind : new int[] {2, 3, 4, 5}) {
                t.refused("a SHY one for " + kind, Stands::busy, x -> x.says(2, kind), Town.OTHER);
            }
            ThrownRosesReturn x = Stands.busy();
            t.taken("but for a SHY one", x, () -> x.says(2, 1), 7);
        });
        t.promise(8, "NOTHING.", () -> {
            for (int kind = 0; kind < 6; kind++) {
                int one = kind;
                t.refused("for kind " + kind, Stands::busy, x -> x.says(3, one), Town.NOTHING);
            }
        });
    }
}
