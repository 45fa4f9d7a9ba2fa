/** The lines of promises 9 to 18, by sentences. */
final class StreetPromises {
    private StreetPromises() {
    }

    static void test(Sentences t) {
        paves(t);
        window(t);
        person(t);
        put(t);
        tell(t);
        tape(t);
        street(t);
        streetEnds(t);
        personOf(t);
        windowOf(t);
    }

    private static void paves(Sentences t) {
        t.promise(9, "There are n CELLS: how many there were.", () -> {
            ThrownRosesReturn x = new ThrownRosesReturn();
            t.taken("as many", x, () -> x.paves(12), 12);
            t.taken("one more", x, () -> x.paves(13), 12);
            t.due("status", x.status(2), 13);
            t.taken("the most", x, () -> x.paves(30), 13);
            t.taken("the most again", x, () -> x.paves(30), 30);
            t.due("status", x.status(2), 30);
        });
        t.promise(9, "BAD: also fewer than there are.", () -> {
            t.bad("of 13, n", Stands::busy, ThrownRosesReturn::paves, 12, 2, 1, 0, -1, 31);
            t.bad("of 12, n", ThrownRosesReturn::new, ThrownRosesReturn::paves, 11, 31);
        });
    }

    private static void window(Sentences t) {
        t.promise(10, "A WINDOW: the number.", () -> {
            ThrownRosesReturn x = new ThrownRosesReturn();
            for (int w = 0; w < 8; w++) {
                int number = w;
                t.taken("number " + w, x, () -> x.window(11 - number, 1 + number % 5, 9 - number), w);
                t.due("windows", x.status(1), w + 1);
                t.due("cell", x.windowOf(w, 0), 11 - w);
                t.due("floor", x.windowOf(w, 1), 1 + w % 5);
                t.due("thorns", x.windowOf(w, 2), 9 - w);
            }
        });
        t.promise(10, "BAD;", () -> {
            t.bad("cell", Stands::busy, (x, cell) -> x.window(cell, 1, 0), -1, 13);
            t.bad("floor", Stands::busy, (x, floor) -> x.window(0, floor, 0), 0, -1, 6);
            t.bad("thorns", Stands::busy, (x, thorns) -> x.window(0, 1, thorns), -1, 10);
            t.bad("cell, ahead of FULL", Stands::full, (x, cell) -> x.window(cell, 1, 0), -1, 12);
            t.bad("floor, ahead of FULL", Stands::full, (x, floor) -> x.window(0, floor, 0), 0, 6);
            t.bad("thorns, ahead of FULL", Stands::full, (x, thorns) -> x.window(0, 1, thorns), -1, 10);
        });
        t.promise(10, "FULL.", () -> t.refused("a ninth", Stands::full, x -> x.window(11, 5, 9), Town.FULL));
    }

    private static void person(Sentences t) {
        t.promise(11, "One of the PEOPLE: the number.", () -> {
            ThrownRosesReturn x = new ThrownRosesReturn();
            for (int p = 0; p < 8; p++) {
                int number = p;
                t.taken("number " + p, x, () -> x.person(number % 6, 9 - number, 11 - number), p);
                t.due("people", x.status(0), p + 1);
                int[] due = {p % 6, 9 - p, 11 - p, Town.NONE, Town.NONE};
                for (int what = 0; what < due.length; what++) {
                    t.due("personOf(" + p + ", " + what + ")", x.personOf(p, what), due[what]);
                }
            }
        });
        t.promise(11, "BAD;", () -> {
            t.bad("kind", Stands::busy, (x, kind) -> x.person(kind, 0, 0), -1, 6);
            t.bad("a", Stands::busy, (x, a) -> x.person(0, a, 0), -1, 10);
            t.bad("cell", Stands::busy, (x, cell) -> x.person(0, 0, cell), -1, 13);
            t.bad("kind, ahead of FULL", Stands::full, (x, kind) -> x.person(kind, 0, 0), -1, 6);
            t.bad("a, ahead of FULL", Stands::full, (x, a) -> x.person(0, a, 0), -1, 10);
            t.bad("cell, ahead of FULL", Stands::full, (x, cell) -> x.person(0, 0, cell), -1, 12);
        });
        t.promise(11, "FULL.", () -> t.refused("a ninth", Stands::full, x -> x.person(5, 9, 11), Town.FULL));
    }

    private static void put(Sentences t) {
        t.promise(12, "One is AT a CELL: where he was.", () -> {
            ThrownRosesReturn x = Stands.full();
            t.taken("the first, to the last cell", x, () -> x.put(0, 11), 0);
            t.taken("the first, to the first cell", x, () -> x.put(0, 0), 11);
            t.taken("the last, where he is", x, () -> x.put(7, 7), 7);
            t.taken("the last, to the last cell", x, () -> x.put(7, 11), 7);
            t.due("is there", x.personOf(7, 2), 11);
            t.due("no other", x.personOf(6, 2), 6);
            ThrownRosesReturn y = Stands.busy();
            t.taken("one with a rose", y, () -> y.put(0, 12), 5);
            t.due("keeps it", y.personOf(0, 3), 0);
            t.due("and the day", y.personOf(0, 4), 4);
        });
        t.promise(12, "BAD.", () -> {
            t.bad("person", Stands::busy, (x, person) -> x.put(person, 0), -1, 6);
            t.bad("cell", Stands::busy, (x, cell) -> x.put(0, cell), -1, 13);
            t.bad("person of none", ThrownRosesReturn::new, (x, person) -> x.put(person, 0), -1, 0);
        });
    }

    private static void tell(Sentences t) {
        t.promise(13, "WIND (what 0), DAY (1), LENT (2) becomes v: what it was.", () -> {
            int[] first = {5, 0, 40};
            int[] most = {10, 999, 999};
            for (int what = 0; what <= 2; what++) {
                ThrownRosesReturn x = new ThrownRosesReturn();
                int one = what;
                t.taken("the greatest " + what, x, () -> x.tell(one, most[one]), first[what]);
                t.due("is", x.status(3 + what), most[what]);
                t.taken("the least " + what, x, () -> x.tell(one, 0), most[what]);
                t.due("is", x.status(3 + what), 0);
                for (int other = 0; other <= 2; other++) {
                    t.due("no other", x.status(3 + other), other == what ? 0 : first[other]);
                }
            }
            ThrownRosesReturn y = Stands.busy();
            y.tell(1, 999);
            y.tell(2, 0);
            t.due("who has a rose is due as he was", y.personOf(0, 4), 4);
            t.due("nobody brought one", y.status(6), 0);
        });
        t.promise(13, "BAD.", () -> {
            t.bad("what", Stands::busy, (x, what) -> x.tell(what, 0), -1, 3);
            t.bad("wind", Stands::busy, (x, v) -> x.tell(0, v), -1, 11);
            t.bad("day", Stands::busy, (x, v) -> x.tell(1, v), -1, 1000);
            t.bad("Lent", Stands::busy, (x, v) -> x.tell(2, v), -1, 1000);
        });
    }

    private static void tape(Sentences t) {
        t.promise(14, "THE TAPE gets one byte (0 to 255) behind it: its size.", () -> {
            ThrownRosesReturn x = new ThrownRosesReturn();
            t.taken("byte 0", x, () -> x.feed(0), 1);
            t.taken("byte 255", x, () -> x.feed(255), 2);
            t.due("its size", x.status(8), 2);
            x.wipe();
            for (int i = 1; i <= 250; i++) {
                t.due("byte " + i, x.feed(i == 1 ? ';' : ' '), i);
            }
            t.due("the first stands first", x.street(), -20);
        });
        t.promise(14, "BAD;", () -> {
            t.bad("byte", Stands::busy, ThrownRosesReturn::feed, -1, 256);
            t.bad("byte, ahead of FULL", Stands::fullTape, ThrownRosesReturn::feed, -1, 256);
        });
        t.promise(14, "FULL.", () -> {
            t.refused("a 251st byte", Stands::fullTape, x -> x.feed(0), Town.FULL);
            t.refused("another", Stands::fullTape, x -> x.feed(255), Town.FULL);
        });
        t.promise(15, "THE TAPE is empty: its size ahead.", () -> {
            ThrownRosesReturn x = Stands.fullTape();
            t.taken("a full one", x, x::wipe, 250);
            t.due("is empty", x.status(8), 0);
            t.taken("an empty one", x, x::wipe, 0);
            t.due("nothing stays behind", Town.read(x, "day 3"), 1);
            x.feed(' ');
            t.taken("one byte", x, x::wipe, 1);
            t.due("ends too early", x.street(), -20);
        });
    }

    private static void street(Sentences t) {
        t.promise(16, "THE TAPE is a STREET: how many STATEMENTS;", () -> {
            ThrownRosesReturn x = new ThrownRosesReturn();
            Town.feed(x, "day 3");
            t.taken("one", x, x::street, 1);
            t.due("is read", x.status(4), 3);
            Town.feed(x, "cells 13;window 12 1 2;person 3 4 5;at 0 6;wind 7;day 8;lent 9");
            t.taken("seven", x, x::street, 7);
            int[] due = {1, 1, 13, 7, 8, 9};
            for (int what = 0; what < due.length; what++) {
                t.due("status(" + what + ")", x.status(what), due[what]);
            }
            t.due("at", x.personOf(0, 2), 6);
            readsAs(t, "cells 14", y -> y.paves(14));
            readsAs(t, "window 3 2 4", y -> y.window(3, 2, 4));
            readsAs(t, "person 1 2 3", y -> y.person(1, 2, 3));
            readsAs(t, "person 4 8 6", y -> y.person(4, 8, 6));
            readsAs(t, "at 4 2", y -> y.put(4, 2));
            readsAs(t, "at 0 3", y -> y.put(0, 3));
            readsAs(t, "wind 7", y -> y.tell(0, 7));
            readsAs(t, "day 8", y -> y.tell(1, 8));
            readsAs(t, "lent 9", y -> y.tell(2, 9));
        });
        t.promise(16, "-20 less the FAULT (that is refused, too: BAD).", () -> {
            t.refusedText("at the first byte", ThrownRosesReturn::new, "x", 0);
            t.refusedText("of an empty tape", ThrownRosesReturn::new, "", 0);
            t.refusedText("behind others", ThrownRosesReturn::new, "day 1;x", 6);
            t.refusedText("at the last byte", ThrownRosesReturn::new, "day 1" + " ".repeat(244) + "x", 249);
            t.refusedText("at the end", ThrownRosesReturn::new, " ".repeat(250), 250);
            t.refusedText("no room is BAD, too", Stands::full, "window 0 1 0", 0);
        });
    }

    /** One statement does what a call does, and nothing else. */
    private static void readsAs(Sentences t, String statement, java.util.function.Consumer<ThrownRosesReturn> call) {
        ThrownRosesReturn x = Stands.busy();
        x.wipe();
        Town.feed(x, statement);
        t.taken("'" + statement + "'", x, x::street, 1);
        ThrownRosesReturn twin = Stands.busy();
        twin.wipe();
        call.accept(twin);
        t.same("'" + statement + "' as by a call", x, twin);
    }

    private static void streetEnds(Sentences t) {
        t.promise(16, "THE TAPE is empty then, either way.", () -> {
            ThrownRosesReturn x = Stands.busy();
            t.due("read", x.street(), 1);
            t.due("is empty", x.status(8), 0);
            t.due("nothing stays behind", x.street(), -20);
            Town.feed(x, "day 1;x");
            t.due("a fault", x.street(), -26);
            t.due("is empty", x.status(8), 0);
            t.due("nothing stays behind", Town.read(x, "day 5"), 1);
            t.due("day 5", x.status(4), 5);
        });
    }

    private static void personOf(Sentences t) {
        t.promise(17, "Of one of the PEOPLE: KIND (0), a (1), AT (2), ROSE (3; NONE), DUE (4; NONE), REACH (5).", () -> {
            ThrownRosesReturn x = Town.built();
            x.thrown(2, 2, 2);
            int[][] due = {
                {0, 4, 5, -1, -1, 1}, {1, 2, 2, -1, -1, 0}, {2, 7, 8, 2, 3, 2},
                {3, 9, 5, -1, -1, 0}, {4, 1, 1, -1, -1, 3}, {5, 0, 0, -1, -1, 1},
            };
            for (int p = 0; p < due.length; p++) {
                for (int what = 0; what < 6; what++) {
                    t.due("personOf(" + p + ", " + what + ")", x.personOf(p, what), due[p][what]);
                }
            }
        });
        t.promise(17, "BAD.", () -> {
            t.bad("person", Stands::busy, (x, person) -> x.personOf(person, 0), -1, 6);
            t.bad("what", Stands::busy, (x, what) -> x.personOf(0, what), -1, 6);
            t.bad("person of none", ThrownRosesReturn::new, (x, person) -> x.personOf(person, 0), -1, 0);
        });
        t.promise(17, "(NONE isn't refused.)", () -> {
            ThrownRosesReturn x = Town.built();
            t.taken("rose", x, () -> x.personOf(5, 3), Town.NONE);
            t.taken("due", x, () -> x.personOf(5, 4), Town.NONE);
        });
    }

    private static void windowOf(Sentences t) {
        t.promise(18, "Of a WINDOW: CELL (0), FLOOR (1), THORNS (2).", () -> {
            ThrownRosesReturn x = Stands.full();
            for (int w = 0; w < 8; w++) {
                int one = w;
                t.taken("cell", x, () -> x.windowOf(one, 0), w);
                t.taken("floor", x, () -> x.windowOf(one, 1), 1 + w % 5);
                t.taken("thorns", x, () -> x.windowOf(one, 2), w);
            }
        });
        t.promise(18, "BAD.", () -> {
            t.bad("window", Stands::busy, (x, window) -> x.windowOf(window, 0), -1, 3);
            t.bad("what", Stands::busy, (x, what) -> x.windowOf(0, what), -1, 3);
            t.bad("window of none", ThrownRosesReturn::new, (x, window) -> x.windowOf(window, 0), -1, 0);
        });
    }
}
