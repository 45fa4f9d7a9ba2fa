/** The words on throws in truth, days, draws, shelves and rows. */
final class TruthSentences {
    private TruthSentences() {
    }

    static void test(Sentences t) {
        inTruth(t);
        days(t);
        bringing(t);
        carnivals(t);
        draws(t);
        shelves(t);
        rows(t);
        lowestBits(t);
    }

    private static void roseIs(Sentences t, ThrownRosesReturn x, int person, int rose, int due) {
        t.taken("rose of " + person, x, () -> x.personOf(person, 3), rose);
        t.taken("due of " + person, x, () -> x.personOf(person, 4), due);
    }

    private static void inTruth(Sentences t) {
        t.terms(54, "IN TRUTH: a THROW (who CATCHES it has the ROSE, DUE is DAY and SLOW, NONE if he never COMES)", () -> {
            ThrownRosesReturn x = new ThrownRosesReturn();
            x.window(5, 1, 0);
            x.person(0, 9, 5);
            x.person(0, 9, 5);
            x.person(5, 0, 5);
            x.tell(1, 31);
            t.taken("on LENT", x, () -> x.thrown(0, 0, 0), 0);
            roseIs(t, x, 0, 0, 40);
            x.tell(1, 32);
            t.taken("behind it", x, () -> x.thrown(0, 0, 0), 1);
            roseIs(t, x, 1, 0, Town.NONE);
            x.tell(1, 30);
            t.taken("a HORSE to floor 1", x, () -> x.thrown(0, 0, 0), 2);
            roseIs(t, x, 2, 0, 40);
            t.taken("nobody left", x, () -> x.thrown(0, 0, 0), Town.NONE);
            ThrownRosesReturn y = new ThrownRosesReturn();
            y.window(5, 2, 0);
            y.person(5, 0, 5);
            t.taken("a HORSE to floor 2", y, () -> y.thrown(0, 0, 0), 0);
            roseIs(t, y, 0, 0, Town.NONE);
            ThrownRosesReturn z = new ThrownRosesReturn();
            z.window(5, 1, 0);
            z.person(4, 9, 5);
            z.tell(1, 999);
            z.tell(2, 999);
            z.thrown(0, 0, 0);
            roseIs(t, z, 0, 0, 999);
        });
    }

    private static void days(Sentences t) {
        t.terms(55, "DAYS: DAY is 1 more (999 at most)", () -> {
            ThrownRosesReturn x = new ThrownRosesReturn();
            x.days(1);
            t.due("1", x.status(4), 1);
            x.days(60);
            t.due("60 more", x.status(4), 61);
            x.tell(1, 998);
            x.days(1);
            t.due("999", x.status(4), 999);
            x.days(1);
            t.due("no more", x.status(4), 999);
            x.tell(1, 970);
            x.days(60);
            t.due("60 to 999", x.status(4), 999);
        });
    }

    private static void bringing(Sentences t) {
        t.terms(55, "then all whose DUE is DAY or ahead of it bring it: no ROSE, no DUE, SAID 1 more each.", () -> {
            ThrownRosesReturn x = new ThrownRosesReturn();
            x.window(5, 1, 0);
            for (int p = 0; p < 8; p++) {
                x.person(0, p < 6 ? 2 : 3, 5);
                x.thrown(0, 0, 0);
            }
            t.due("a day ahead of DUE", x.days(1), 0);
            roseIs(t, x, 0, 0, 2);
            t.due("on the day", x.days(1), 6);
            roseIs(t, x, 0, Town.NONE, Town.NONE);
            roseIs(t, x, 5, Town.NONE, Town.NONE);
            roseIs(t, x, 6, 0, 3);
            x.tell(1, 500);
            t.due("telling a day brings none", x.status(6), 6);
            t.due("behind DUE", x.days(1), 8);
            roseIs(t, x, 7, Town.NONE, Town.NONE);
            ThrownRosesReturn y = new ThrownRosesReturn();
            y.window(5, 1, 0);
            y.person(4, 0, 5);
            y.person(0, 1, 5);
            y.tell(1, 999);
            y.tell(2, 999);
            y.thrown(0, 0, 0);
            y.thrown(0, 0, 0);
            t.due("999 stays and brings", y.days(1), 1);
            roseIs(t, y, 0, Town.NONE, Town.NONE);
            roseIs(t, y, 1, 0, Town.NONE);
            t.due("who never comes never brings", y.days(60), 1);
            roseIs(t, y, 1, 0, Town.NONE);
        });
    }

    private static void carnivals(Sentences t) {
        t.terms(56, "CARNIVALS by draws, n: each: WIND becomes a DRAW below 11; a WINDOW (a DRAW below how many), "
                + "FORCE (a DRAW below 10), WAY (a DRAW below 3): a THROW; a DAY; how many were CAUGHT.", () -> {
            ThrownRosesReturn x = new ThrownRosesReturn();
            ThrownRosesReturn y = new ThrownRosesReturn();
            x.paves(30);
            y.paves(30);
            for (int i = 0; i < 8; i++) {
                x.window(8 + i, 1 + i % 5, i);
                y.window(8 + i, 1 + i % 5, i);
                x.person(i % 6, i, 8 + i);
                y.person(i % 6, i, 8 + i);
            }
            y.seed(1);
            long seed = 1;
            int caught = 0;
            for (int i = 0; i < 40; i++) {
                int[] drawn = new int[4];
                int[] below = {11, 8, 10, 3};
                for (int k = 0; k < 4; k++) {
                    seed = (seed * 1103515245L + 12345L) % (1L << 32);
                    drawn[k] = (int) (seed / 65536 % below[k]);
                }
                y.tell(0, drawn[0]);
                caught += y.thrown(drawn[1], drawn[2], drawn[3]) != Town.NONE ? 1 : 0;
                y.days(1);
            }
            t.due("caught of 40", x.drawn(40), caught);
            t.due("some were not", caught > 0 && caught < 40 ? 1 : 0, 1);
            t.due("a day each", x.status(4), 40);
            t.due("wind", x.status(3), y.status(3));
            t.due("said", x.status(6), y.status(6));
            t.due("seed", x.status(9), (int) seed);
            for (int p = 0; p < 8; p++) {
                roseIs(t, x, p, y.personOf(p, 3), y.personOf(p, 4));
            }
        });
    }

    /** The wind by the first draw, which is below 11. */
    private static void windBy(Sentences t, int seed, int upper, int ahead) {
        ThrownRosesReturn x = new ThrownRosesReturn();
        x.window(0, 1, 0);
        x.tell(0, ahead);
        x.seed(seed);
        x.drawn(1);
        t.due("the wind by seed " + seed, x.status(3), upper % 11);
    }

    private static void draws(Sentences t) {
        t.terms(57, "A DRAW below n: SEED (1 at first) becomes SEED times 1103515245, and 12345 (an int, wrapping)", () -> {
            ThrownRosesReturn x = new ThrownRosesReturn();
            x.window(0, 1, 0);
            t.due("at first", x.status(9), 1);
            x.drawn(1);
            t.due("four draws on", x.status(9), -999580867);
            x.seed(Integer.MAX_VALUE);
            x.drawn(1);
            t.due("from the greatest int", x.status(9), 1751031067);
            x.seed(Integer.MIN_VALUE);
            x.drawn(1);
            t.due("from the least int", x.status(9), 1449466924);
        });
        t.terms(56, "its upper 16 bits, no sign, modulo n.", () -> {
            windBy(t, 1, 16838, 0);
            windBy(t, 2, 33676, 0);
            windBy(t, -1, 48697, 5);
            windBy(t, 0, 0, 5);
        });
    }

    private static void shelves(Sentences t) {
        t.terms(6, "SHELVES 0 to 7 hold NOTHING (at first), a ROW, or one of the PEOPLE.", () -> {
            ThrownRosesReturn x = new ThrownRosesReturn();
            x.person(0, 0, 0);
            for (int s = 0; s < 8; s++) {
                int shelf = s;
                t.taken("NOTHING at first on " + s, x, () -> x.holds(shelf), Town.NONE);
                t.taken("a row", x, () -> x.row(shelf, 0, 1), 1);
                t.taken("is held", x, () -> x.holds(shelf), 0);
                t.taken("one of the people", x, () -> x.show(shelf, 0), 1);
                t.taken("is held", x, () -> x.holds(shelf), 10);
                t.due("shelves that hold something", x.status(10), s + 1);
            }
            t.refused("shelf -1", Stands::busy, y -> y.row(-1, 0, 1), Town.BAD);
            t.refused("shelf 8", Stands::busy, y -> y.row(8, 0, 1), Town.BAD);
        });
    }

    private static void rows(Sentences t) {
        t.terms(2, "A ROW has a SORT (0 bytes, 1 shorts, 2 ints, 3 longs, 4 booleans)", () -> {
            ThrownRosesReturn x = new ThrownRosesReturn();
            long[] due = {-1, -1, -1, -1, 1};
            long[] ofMany = {0x88 - 0x100, 0x7788, 0x55667788, 0x1122334455667788L, 1};
            for (int sort = 0; sort <= 4; sort++) {
                int one = sort;
                t.taken("sort " + sort, x, () -> x.row(0, one, 1), 1);
                t.due("is held", x.holds(0), sort);
                x.set(0, 0, -1);
                t.due("of -1", x.element(0, 0), due[sort]);
                x.set(0, 0, 0x1122334455667788L);
                t.due("of 8 bytes", x.element(0, 0), ofMany[sort]);
            }
            t.refused("sort -1", Stands::busy, y -> y.row(0, -1, 1), Town.BAD);
            t.refused("sort 5", Stands::busy, y -> y.row(0, 5, 1), Town.BAD);
        });
        t.terms(2, "and 0 to 40 elements (0, or not so, at first)", () -> {
            ThrownRosesReturn x = new ThrownRosesReturn();
            for (int sort = 0; sort <= 4; sort++) {
                int one = sort;
                t.taken("40", x, () -> x.row(0, one, 40), 1);
                for (int i = 0; i < 40; i++) {
                    t.due("element " + i, x.element(0, i), 0);
                }
                t.taken("the last", x, () -> x.set(0, 39, 1), 1);
                t.taken("none", x, () -> x.row(0, one, 0), 1);
                t.due("the first of none", x.set(0, 0, 1), Town.BAD);
            }
            t.refused("-1", Stands::busy, y -> y.row(0, 3, -1), Town.BAD);
            t.refused("41", Stands::busy, y -> y.row(0, 3, 41), Town.BAD);
        });
    }

    private static void keeps(Sentences t, int sort, long put, long due) {
        ThrownRosesReturn x = new ThrownRosesReturn();
        x.row(0, sort, 1);
        t.taken("set to " + put, x, () -> x.set(0, 0, put), 1);
        t.due("sort " + sort + " of " + put, x.element(0, 0), due);
    }

    private static void lowestBits(Sentences t) {
        t.terms(3, "what is put in keeps its lowest bits, with their sign", () -> {
            for (int sort = 0; sort <= 2; sort++) {
                long half = 1L << (8 << sort) - 1;
                keeps(t, sort, half - 1, half - 1);
                keeps(t, sort, half, -half);
                keeps(t, sort, -half, -half);
                keeps(t, sort, -half - 1, half - 1);
                keeps(t, sort, 2 * half - 1, -1);
                keeps(t, sort, 2 * half, 0);
                keeps(t, sort, 2 * half + 1, 1);
                keeps(t, sort, -2 * half, 0);
                keeps(t, sort, Long.MAX_VALUE, -1);
                keeps(t, sort, Long.MIN_VALUE, 0);
            }
            keeps(t, 3, Long.MAX_VALUE, Long.MAX_VALUE);
            keeps(t, 3, Long.MIN_VALUE, Long.MIN_VALUE);
            keeps(t, 3, 1L << 32, 1L << 32);
        });
        t.terms(3, "(of booleans: whether it is not 0); told they are numbers (1, 0).", () -> {
            keeps(t, 4, 0, 0);
            keeps(t, 4, 1, 1);
            keeps(t, 4, -1, 1);
            keeps(t, 4, 2, 1);
            keeps(t, 4, 256, 1);
            keeps(t, 4, 1L << 32, 1);
            keeps(t, 4, Long.MIN_VALUE, 1);
            ThrownRosesReturn x = new ThrownRosesReturn();
            x.row(0, 4, 1);
            x.set(0, 0, 7);
            t.taken("not so again", x, () -> x.set(0, 0, 0), 1);
            t.due("is 0", x.element(0, 0), 0);
        });
    }
}
