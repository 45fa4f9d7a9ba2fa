/** The words of '2. A THROW'. */
final class ThrowSentences {
    private ThrowSentences() {
    }

    static void test(Sentences t) {
        ways(t);
        cells(t);
        landing(t);
        nearest(t);
        withoutRose(t);
        horses(t);
        reach(t);
        slow(t);
        comes(t);
    }

    private static void ways(Sentences t) {
        t.terms(19, "a FORCE (0 to 9)", () -> {
            ThrownRosesReturn x = Stands.under(15, 3);
            t.taken("0", x, () -> x.lands(0, 0, 1), 15);
            t.taken("9", x, () -> x.lands(0, 9, 1), 24);
            t.refused("-1", Stands::busy, y -> y.lands(0, -1, 1), Town.BAD);
            t.refused("10", Stands::busy, y -> y.lands(0, 10, 1), Town.BAD);
        });
        t.terms(19, "a WAY (0 straight down, 1 up the numbers, 2 down the numbers)", () -> {
            ThrownRosesReturn x = Stands.under(15, 3);
            t.taken("straight down", x, () -> x.lands(0, 4, 0), 15);
            t.taken("up", x, () -> x.lands(0, 4, 1), 19);
            t.taken("down", x, () -> x.lands(0, 4, 2), 11);
            t.refused("-1", Stands::busy, y -> y.lands(0, 0, -1), Town.BAD);
            t.refused("3", Stands::busy, y -> y.lands(0, 0, 3), Town.BAD);
        });
        t.terms(19, "By a WINDOW,", () -> {
            ThrownRosesReturn x = Stands.full();
            t.taken("the first", x, () -> x.lands(0, 0, 0), 0);
            t.taken("the eighth", x, () -> x.lands(7, 0, 0), 7);
            t.refused("-1", Stands::full, y -> y.lands(-1, 0, 0), Town.BAD);
            t.refused("8", Stands::full, y -> y.lands(8, 0, 0), Town.BAD);
            t.refused("of none", ThrownRosesReturn::new, y -> y.lands(0, 0, 0), Town.BAD);
        });
    }

    private static void cells(Sentences t) {
        int[][] far = {
            {0, 0, 0, 1, 1, 1, 2, 2, 2, 3},
            {0, 0, 1, 2, 2, 3, 4, 4, 5, 6},
            {0, 1, 2, 3, 4, 5, 6, 7, 8, 9},
            {0, 1, 2, 4, 5, 6, 8, 9, 10, 12},
            {0, 1, 3, 5, 6, 8, 10, 11, 13, 15},
        };
        t.terms(19, "FORCE times FLOOR, by 3 (cut), CELLS that WAY from the WINDOW's CELL", () -> {
            for (int floor = 1; floor <= 5; floor++) {
                ThrownRosesReturn up = Stands.under(14, floor);
                ThrownRosesReturn down = Stands.under(15, floor);
                for (int force = 0; force < 10; force++) {
                    int cells = far[floor - 1][force];
                    t.due("floor " + floor + ", force " + force + " up", up.lands(0, force, 1), 14 + cells);
                    t.due("floor " + floor + ", force " + force + " down", down.lands(0, force, 2), 15 - cells);
                }
            }
        });
        t.terms(19, "(WAY 0: none)", () -> {
            ThrownRosesReturn x = Stands.under(29, 5);
            t.due("force 0", x.lands(0, 0, 0), 29);
            t.due("force 9", x.lands(0, 9, 0), 29);
        });
        t.terms(19, "then WIND less 5 more (below 0: down the numbers)", () -> {
            ThrownRosesReturn x = Stands.under(15, 3);
            for (int wind = 0; wind <= 10; wind++) {
                x.tell(0, wind);
                t.due("straight down by " + wind, x.lands(0, 9, 0), 10 + wind);
                t.due("up by " + wind, x.lands(0, 2, 1), 12 + wind);
                t.due("down by " + wind, x.lands(0, 2, 2), 8 + wind);
            }
        });
    }

    private static void landing(Sentences t) {
        t.terms(19, "there it LANDS", () -> {
            ThrownRosesReturn x = Stands.under(0, 5);
            x.window(29, 5, 0);
            t.taken("the first cell", x, () -> x.lands(0, 0, 2), 0);
            t.taken("the last cell", x, () -> x.lands(1, 0, 1), 29);
            x.tell(0, 0);
            t.taken("back from off the last", x, () -> x.lands(1, 3, 1), 29);
            x.tell(0, 10);
            t.taken("back from off the first", x, () -> x.lands(0, 3, 2), 0);
        });
        t.terms(19, "NONE: off the street.", () -> {
            ThrownRosesReturn x = Stands.under(0, 3);
            x.window(29, 3, 0);
            t.taken("1 below the first", x, () -> x.lands(0, 1, 2), Town.NONE);
            t.taken("1 behind the last", x, () -> x.lands(1, 1, 1), Town.NONE);
            t.taken("far below", x, () -> x.lands(0, 9, 2), Town.NONE);
            x.tell(0, 4);
            t.taken("by the wind alone", x, () -> x.lands(0, 0, 0), Town.NONE);
            t.taken("not by it", x, () -> x.lands(0, 1, 1), 0);
            x.tell(0, 6);
            t.taken("by the wind at the other end", x, () -> x.lands(1, 0, 0), Town.NONE);
            ThrownRosesReturn y = new ThrownRosesReturn();
            y.window(11, 3, 0);
            t.taken("behind the last of 12", y, () -> y.lands(0, 1, 1), Town.NONE);
            y.paves(13);
            t.taken("not of 13", y, () -> y.lands(0, 1, 1), 12);
        });
    }

    private static void nearest(Sentences t) {
        t.terms(20, "It is CAUGHT by the nearest of PEOPLE", () -> {
            ThrownRosesReturn x = Stands.under(15, 3);
            x.person(4, 0, 12);
            t.due("one 3 off", x.caught(0, 0, 0), 0);
            x.person(4, 0, 17);
            t.due("one 2 off", x.caught(0, 0, 0), 1);
            x.person(4, 0, 14);
            t.due("one 1 off", x.caught(0, 0, 0), 2);
            x.person(4, 0, 15);
            t.due("one beneath", x.caught(0, 0, 0), 3);
        });
        t.terms(20, "who REACH so far, of several the first", () -> {
            ThrownRosesReturn x = Stands.under(15, 3);
            x.person(0, 0, 13);
            x.person(2, 0, 17);
            t.due("as near, but reaches less", x.caught(0, 0, 0), 1);
            x.person(2, 0, 13);
            t.due("of two as near", x.caught(0, 0, 0), 1);
            x.put(0, 14);
            t.due("of three the nearest", x.caught(0, 0, 0), 0);
            x.put(2, 16);
            t.due("of two as near on both sides", x.caught(0, 0, 0), 0);
            x.put(0, 15);
            x.put(1, 15);
            x.put(2, 15);
            t.due("of all beneath", x.caught(0, 0, 0), 0);
        });
        t.terms(20, "NONE: nobody.", () -> {
            ThrownRosesReturn x = Stands.under(15, 3);
            t.taken("of none", x, () -> x.caught(0, 0, 0), Town.NONE);
            x.person(0, 0, 17);
            t.taken("of one too far", x, () -> x.caught(0, 0, 0), Town.NONE);
            ThrownRosesReturn y = Stands.under(29, 3);
            y.person(4, 0, 29);
            t.taken("off the street, though not too far", y, () -> y.caught(0, 1, 1), Town.NONE);
            ThrownRosesReturn z = Stands.under(0, 3);
            z.person(4, 0, 0);
            t.taken("below the first cell", z, () -> z.caught(0, 1, 2), Town.NONE);
        });
    }

    private static void withoutRose(Sentences t) {
        t.terms(54, "without a ROSE", () -> {
            ThrownRosesReturn x = Stands.under(15, 3);
            x.person(0, 5, 15);
            x.person(2, 5, 17);
            t.due("the nearest", x.thrown(0, 0, 0), 0);
            t.due("the other", x.thrown(0, 0, 0), 1);
            t.taken("nobody left", x, () -> x.thrown(0, 0, 0), Town.NONE);
            x.days(2);
            t.due("who brought it back catches again", x.thrown(0, 0, 0), 1);
        });
    }

    private static void horses(Sentences t) {
        t.terms(20, "a HORSE only if nobody else does", () -> {
            ThrownRosesReturn x = Stands.under(15, 3);
            x.person(5, 0, 15);
            t.due("alone", x.caught(0, 0, 0), 0);
            x.person(4, 0, 18);
            t.due("one further and behind it", x.caught(0, 0, 0), 1);
            x.person(5, 0, 15);
            t.due("a HORSE behind him", x.caught(0, 0, 0), 1);
            x.put(1, 19);
            t.due("who doesn't reach", x.caught(0, 0, 0), 0);
            x.put(0, 16);
            t.due("the nearest of them", x.caught(0, 0, 0), 2);
            x.put(2, 14);
            t.due("the first of them", x.caught(0, 0, 0), 0);
        });
    }

    private static void reach(Sentences t) {
        t.terms(20, "REACH: CATCHER, HORSE 1; SHY, TIMID 0; BOLD 2; RAKE 3.", () -> {
            int[] reach = {1, 0, 2, 0, 3, 1};
            for (int kind = 0; kind < 6; kind++) {
                ThrownRosesReturn x = Stands.under(15, 3);
                x.person(kind, 9, 15);
                for (int off = 0; off <= 4; off++) {
                    int due = off <= reach[kind] ? 0 : Town.NONE;
                    t.due("kind " + kind + ", " + off + " up", x.caught(0, off, 1), due);
                    t.due("kind " + kind + ", " + off + " down", x.caught(0, off, 2), due);
                }
                t.due("kind " + kind, x.personOf(0, 5), reach[kind]);
            }
        });
    }

    /** How slow one is who is of a kind and an a, with a rose of a floor. */
    private static int slow(int kind, int a, int floor) {
        ThrownRosesReturn x = Stands.under(15, floor);
        x.person(kind, a, 0);
        return x.slow(0, 0);
    }

    private static void slowIs(Sentences t, String words, int kind, int[][] due) {
        t.terms(21, words, () -> {
            for (int[] row : due) {
                t.due("a " + row[0] + ", floor " + row[1], slow(kind, row[0], row[1]), row[2]);
            }
        });
    }

    private static void slow(Sentences t) {
        slowIs(t, "SLOW (days) of one with a ROSE of a WINDOW: CATCHER a", 0,
                new int[][] {{0, 1, 0}, {0, 5, 0}, {9, 1, 9}, {9, 5, 9}});
        slowIs(t, "SHY twice a, and 3", 1, new int[][] {{0, 1, 3}, {0, 5, 3}, {1, 1, 5}, {9, 1, 21}, {9, 5, 21}});
        slowIs(t, "TIMID what a SHY one is, and FLOOR", 3,
                new int[][] {{0, 1, 4}, {0, 5, 8}, {1, 2, 7}, {9, 1, 22}, {9, 5, 26}});
        slowIs(t, "BOLD half of a (cut)", 2,
                new int[][] {{0, 1, 0}, {1, 1, 0}, {2, 1, 1}, {3, 5, 1}, {8, 5, 4}, {9, 1, 4}, {9, 5, 4}});
        slowIs(t, "RAKE 0", 4, new int[][] {{0, 1, 0}, {9, 1, 0}, {9, 5, 0}});
        slowIs(t, "HORSE a and 10", 5, new int[][] {{0, 1, 10}, {9, 1, 19}, {9, 5, 19}});
    }

    private static void comes(Sentences t) {
        t.terms(22, "He COMES, if DAY and SLOW together are LENT at most", () -> {
            ThrownRosesReturn x = Stands.under(15, 5);
            x.person(0, 9, 15);
            comesAt(t, x, 31, 40, 1);
            comesAt(t, x, 32, 40, 0);
            comesAt(t, x, 0, 9, 1);
            comesAt(t, x, 0, 8, 0);
            comesAt(t, x, 990, 999, 1);
            comesAt(t, x, 991, 999, 0);
            x.person(4, 0, 15);
            x.tell(1, 40);
            x.tell(2, 40);
            t.due("a RAKE on LENT", x.comes(1, 0), 1);
            x.tell(1, 41);
            t.due("a RAKE behind it", x.comes(1, 0), 0);
            x.tell(1, 0);
            x.tell(2, 0);
            t.due("a RAKE on day 0", x.comes(1, 0), 1);
            t.due("a CATCHER on day 0", x.comes(0, 0), 0);
        });
        t.terms(22, "a HORSE only to FLOOR 1.", () -> {
            for (int floor = 1; floor <= 5; floor++) {
                ThrownRosesReturn x = Stands.under(15, floor);
                x.person(5, 0, 15);
                t.due("to floor " + floor, x.comes(0, 0), floor == 1 ? 1 : 0);
                x.tell(2, 10);
                t.due("to floor " + floor + ", just", x.comes(0, 0), floor == 1 ? 1 : 0);
                x.tell(2, 9);
                t.due("to floor " + floor + ", late", x.comes(0, 0), 0);
            }
        });
    }

    private static void comesAt(Sentences t, ThrownRosesReturn x, int day, int lent, int due) {
        x.tell(1, day);
        x.tell(2, lent);
        t.taken("day " + day + ", Lent " + lent, x, () -> x.comes(0, 0), due);
    }
}
