/** The lines of promises 54 to 60, by sentences. */
final class TruthPromises {
    private TruthPromises() {
    }

    static void test(Sentences t) {
        thrown(t);
        days(t);
        drawn(t);
        seed(t);
        image(t);
        back(t);
        backShelves(t);
        status(t);
        statusRefusals(t);
    }

    private static void thrown(Sentences t) {
        t.promise(54, "A THROW in truth: who CATCHES it; NONE.", () -> {
            ThrownRosesReturn x = Stands.full();
            t.taken("the first", x, () -> x.thrown(0, 0, 0), 0);
            t.taken("the last", x, () -> x.thrown(7, 0, 0), 7);
            t.due("both have one", x.having(0), 0b10000001);
            t.taken("off the street", x, () -> x.thrown(7, 9, 1), Town.NONE);
            t.taken("nobody near", x, () -> x.thrown(7, 4, 1), Town.NONE);
            t.due("both still", x.having(0), 0b10000001);
            t.due("no day has gone", x.status(4), 0);
        });
        t.promise(54, "BAD.", () -> {
            t.bad("window", Stands::busy, (x, window) -> x.thrown(window, 0, 0), -1, 3);
            t.bad("force", Stands::busy, (x, force) -> x.thrown(0, force, 0), -1, 10);
            t.bad("way", Stands::busy, (x, way) -> x.thrown(0, 0, way), -1, 3);
            t.bad("window of none", ThrownRosesReturn::new, (x, window) -> x.thrown(window, 0, 0), -1, 0);
        });
        t.promise(54, "(NONE isn't refused.)", () -> {
            ThrownRosesReturn x = new ThrownRosesReturn();
            x.window(0, 1, 0);
            t.taken("nobody there", x, () -> x.thrown(0, 0, 0), Town.NONE);
            t.taken("off the street", x, () -> x.thrown(0, 9, 2), Town.NONE);
        });
    }

    private static void days(Sentences t) {
        t.promise(55, "DAYS pass in truth (n 1 to 60): SAID.", () -> {
            ThrownRosesReturn x = Town.built();
            x.thrown(1, 0, 0);
            x.thrown(0, 0, 0);
            t.taken("1", x, () -> x.days(1), 1);
            t.due("day 1", x.status(4), 1);
            t.taken("3, to the day", x, () -> x.days(3), 2);
            t.taken("60", x, () -> x.days(60), 2);
            t.due("day 64", x.status(4), 64);
            t.due("said in all", x.status(6), 2);
        });
        t.promise(55, "BAD.", () -> t.bad("n", Stands::busy, ThrownRosesReturn::days, 0, -1, 61));
    }

    private static void drawn(Sentences t) {
        t.promise(56, "CARNIVALS by draws (n 1 to 40): how many were CAUGHT.", () -> {
            ThrownRosesReturn x = everywhere();
            t.taken("1", x, () -> x.drawn(1), 1);
            t.due("a day", x.status(4), 1);
            ThrownRosesReturn y = everywhere();
            t.taken("40", y, () -> y.drawn(40), 40);
            t.due("forty days", y.status(4), 40);
            ThrownRosesReturn z = new ThrownRosesReturn();
            z.window(0, 1, 0);
            t.taken("nobody there", z, () -> z.drawn(40), 0);
            t.due("forty days", z.status(4), 40);
        });
        t.promise(56, "BAD;", () -> {
            t.bad("n", Stands::busy, ThrownRosesReturn::drawn, 0, -1, 41);
            t.bad("n, ahead of STUCK", ThrownRosesReturn::new, ThrownRosesReturn::drawn, 0, -1, 41);
        });
        t.promise(56, "STUCK: no WINDOWS.", () -> {
            t.refused("1", ThrownRosesReturn::new, x -> x.drawn(1), Town.STUCK);
            t.refused("40", ThrownRosesReturn::new, x -> x.drawn(40), Town.STUCK);
        });
    }

    /** RAKES wherever a rose can land, each of whom brings it back the day behind. */
    private static ThrownRosesReturn everywhere() {
        ThrownRosesReturn x = new ThrownRosesReturn();
        x.paves(30);
        x.window(15, 1, 0);
        x.tell(2, 999);
        for (int p = 0; p < 4; p++) {
            x.person(4, 0, 6 + 6 * p);
        }
        return x;
    }

    private static void seed(Sentences t) {
        t.promise(57, "SEED becomes v: the one ahead.", () -> {
            ThrownRosesReturn x = new ThrownRosesReturn();
            int[] seeds = {1, 0, -1, -2, -6, Integer.MAX_VALUE, Integer.MIN_VALUE, 7};
            for (int i = 1; i < seeds.length; i++) {
                int v = seeds[i];
                t.taken("to " + v, x, () -> x.seed(v), seeds[i - 1]);
                t.due("is " + v, x.status(9), v);
            }
        });
    }

    private static void image(Sentences t) {
        t.promise(58, "All is kept, but THE TAPE, SHELVES and REFUSALS: 1.", () -> {
            ThrownRosesReturn x = Stands.busy();
            t.taken("image", x, x::image, 1);
            x.wipe();
            Town.feed(x, "day 88");
            x.row(0, 2, 2);
            x.set(0, 1, 77);
            x.show(6, 0);
            x.best(2);
            x.best(2);
            t.taken("back", x, x::back, 1);
            t.due("the tape is not", x.status(8), 6);
            t.due("shelves are not", x.holds(0), 2);
            t.due("shelves are not", x.element(0, 1), 77);
            t.due("shelves are not", x.holds(6), 10);
            t.due("refusals are not", x.status(12), 2);
            t.due("the tape is read", x.street(), 1);
            t.due("as it was fed", x.status(4), 88);
            t.onlyTells("an image", Stands::busyAndKept, ThrownRosesReturn::image);
            ThrownRosesReturn y = new ThrownRosesReturn();
            t.taken("an image of a new object", y, y::image, 1);
        });
    }

    private static void back(Sentences t) {
        t.promise(59, "All is again as it was kept (", () -> {
            ThrownRosesReturn x = Stands.full();
            x.thrown(7, 0, 0);
            x.days(1);
            x.thrown(0, 0, 0);
            x.seed(5);
            x.image();
            ThrownRosesReturn twin = Stands.full();
            twin.thrown(7, 0, 0);
            twin.days(1);
            twin.thrown(0, 0, 0);
            twin.seed(5);
            twin.image();
            x.days(20);
            x.paves(30);
            x.tell(0, 1);
            x.tell(2, 1);
            for (int p = 0; p < 8; p++) {
                x.put(p, 29);
            }
            x.thrown(7, 0, 0);
            x.drawn(40);
            t.taken("back", x, x::back, 1);
            x.days(1);
            t.taken("back again", x, x::back, 1);
            t.same("all", x, twin);
            ThrownRosesReturn y = new ThrownRosesReturn();
            y.image();
            for (int i = 0; i < 8; i++) {
                y.window(0, 1, 0);
                y.person(0, 0, 0);
                y.thrown(i, 0, 0);
            }
            y.back();
            t.due("no windows any more", y.status(1), 0);
            t.due("nobody any more", y.status(0), 0);
            t.due("room again", y.person(0, 0, 0), 0);
            t.due("without a rose", y.personOf(0, 3), Town.NONE);
            t.due("without a day", y.personOf(0, 4), Town.NONE);
            t.due("room again", y.window(11, 1, 0), 0);
            y.paves(20);
            y.image();
            y.paves(30);
            y.back();
            t.due("the later image", y.status(2), 20);
            pairsBehind(t);
        });
        t.promise(59, "STUCK: nothing was.", () -> {
            t.refused("on a new object", ThrownRosesReturn::new, ThrownRosesReturn::back, Town.STUCK);
            t.refused("on a full street", Stands::full, ThrownRosesReturn::back, Town.STUCK);
        });
    }

    /** PAIRS of a street that had more windows and people in between. */
    private static void pairsBehind(Sentences t) {
        for (int windows = 0; windows <= 3; windows++) {
            for (int people = 0; people <= 3; people++) {
                ThrownRosesReturn x = new ThrownRosesReturn();
                for (int w = 0; w < windows; w++) {
                    x.window(5, 3, 0);
                }
                for (int p = 0; p < people; p++) {
                    x.person(1, 0, p);
                }
                x.image();
                for (int more = 3; more < 6; more++) {
                    x.window(5, 3, 0);
                    x.person(1, 0, more);
                    x.pairs(-1);
                }
                x.back();
                String of = "of " + windows + " windows and " + people + " people ";
                t.due(of + "together", x.pairs(-1), 10 * Math.min(windows, people));
                t.due(of + "how many", x.pairs(-2), Math.min(windows, people));
            }
        }
    }

    private static void backShelves(Sentences t) {
        t.promise(59, "SHELVES with PEOPLE hold those of the same numbers, or NOTHING): 1.", () -> {
            ThrownRosesReturn x = new ThrownRosesReturn();
            x.person(1, 3, 0);
            x.person(1, 4, 0);
            x.image();
            x.person(5, 5, 0);
            x.show(0, 0);
            x.show(1, 1);
            x.show(2, 2);
            x.row(3, 4, 7);
            x.show(7, 2);
            t.taken("back", x, x::back, 1);
            int[] due = {10, 11, -1, 4, -1, -1, -1, -1};
            for (int s = 0; s < 8; s++) {
                t.due("holds(" + s + ")", x.holds(s), due[s]);
            }
            t.due("three hold something", x.status(10), 3);
            t.due("the last one there says", x.says(1, 0), 4);
            t.due("NOTHING says", x.says(2, 0), Town.NOTHING);
            x.person(2, 6, 0);
            t.due("NOTHING still, though there is one of that number", x.holds(2), Town.NONE);
            ThrownRosesReturn y = new ThrownRosesReturn();
            y.image();
            y.person(0, 0, 0);
            for (int s = 0; s < 8; s++) {
                y.show(s, 0);
            }
            y.back();
            for (int s = 0; s < 8; s++) {
                t.due("of none, holds(" + s + ")", y.holds(s), Town.NONE);
            }
            ThrownRosesReturn z = new ThrownRosesReturn();
            z.person(1, 3, 0);
            z.person(1, 4, 0);
            z.image();
            Town.read(z, "person 0 9 0");
            z.show(0, 1);
            z.back();
            z.person(4, 9, 0);
            z.show(1, 2);
            t.due("of the same number", z.says(0, 0), 4);
            t.due("another of that number", z.says(1, 0), 9);
        });
    }

    private static void status(Sentences t) {
        t.promise(60, "PEOPLE (0), WINDOWS (1), CELLS (2), WIND (3), DAY (4), LENT (5), SAID (6), how many have a ROSE (7), "
                + "THE TAPE's size (8), SEED (9), SHELVES that hold something (10);", () -> {
            statusIs(t, new ThrownRosesReturn(), 0, 0, 12, 5, 0, 40, 0, 0, 0, 1, 0);
            statusIs(t, Stands.busy(), 6, 3, 13, 6, 2, 50, 0, 2, 5, 99, 5);
            statusIs(t, Stands.fullTape(), 0, 0, 12, 5, 0, 40, 0, 0, 250, 1, 0);
            ThrownRosesReturn x = Stands.full();
            x.paves(30);
            x.tell(0, 10);
            x.tell(1, 999);
            x.tell(2, 999);
            x.seed(Integer.MIN_VALUE);
            for (int p = 0; p < 8; p++) {
                x.put(p, 5);
                x.row(p, 0, 0);
            }
            for (int p = 0; p < 8; p++) {
                x.thrown(0, 0, 0);
            }
            statusIs(t, x, 8, 8, 30, 10, 999, 999, 0, 8, 0, Integer.MIN_VALUE, 8);
            x.days(1);
            statusIs(t, x, 8, 8, 30, 10, 999, 999, 2, 6, 0, Integer.MIN_VALUE, 8);
        });
    }

    private static void statusIs(Sentences t, ThrownRosesReturn x, int... due) {
        for (int what = 0; what < due.length; what++) {
            int one = what;
            t.taken("status(" + what + ")", x, () -> x.status(one), due[what]);
        }
    }

    private static void statusRefusals(Sentences t) {
        t.promise(60, "12 to 16: REFUSALS -2 to -6.", () -> {
            ThrownRosesReturn x = Stands.full();
            x.show(0, 0);
            x.put(8, 0);
            for (int i = 0; i < 2; i++) {
                x.set(0, 0, 0);
            }
            for (int i = 0; i < 3; i++) {
                x.set(1, 0, 0);
            }
            for (int i = 0; i < 4; i++) {
                x.back();
            }
            for (int i = 0; i < 5; i++) {
                x.person(0, 0, 0);
            }
            for (int k = 0; k < 5; k++) {
                t.due("refusals " + (-2 - k), x.status(12 + k), k + 1);
            }
            x.street();
            t.due("a fault is one of -2", x.status(12), 2);
        });
        t.promise(60, "NONE another what.", () -> {
            ThrownRosesReturn x = Stands.busy();
            for (int what : new int[] {-1, -2, 11, 17, Integer.MIN_VALUE, Integer.MAX_VALUE}) {
                t.taken("status(" + what + ")", x, () -> x.status(what), Town.NONE);
            }
        });
    }
}
