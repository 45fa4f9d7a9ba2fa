/**
 * The lines of promises 23 to 38, by sentences; what their words mean stands in OutcomeSentences. On Stands.full()
 * cells 0 to 7 are caught in by 0 1 2 3 4 4 6 7 and the others by nobody, so that person 5, a HORSE, can't be hit.
 */
final class OutcomePromises {
    private OutcomePromises() {
    }

    static void test(Sentences t) {
        throwsFor(t);
        hit(t);
        open(t);
        whose(t);
        fond(t);
        pairs(t);
        winds(t);
        windsRefusals(t);
        kinds(t);
        kindsRefusals(t);
        chance(t);
        safest(t);
        queue(t);
        longest(t);
        move(t);
        rival(t);
        having(t);
        due(t);
    }

    private static void throwsFor(Sentences t) {
        t.promise(23, "THROWS for one from a WINDOW: how many (what 0), the least FORCE (1; NONE), the WAY of it (2; NONE).",
                () -> {
            ThrownRosesReturn x = Stands.full();
            int[][] due = {{0, 0, 16, 0, 0}, {7, 7, 12, 0, 0}, {3, 0, 1, 9, 1}, {0, 7, 1, 7, 2}, {5, 5, 0, -1, -1}};
            for (int[] row : due) {
                for (int what = 0; what < 3; what++) {
                    int one = what;
                    t.taken("of " + row[0] + " from " + row[1] + ", what " + what, x,
                            () -> x.throwsFor(row[0], row[1], one), row[2 + what]);
                }
            }
        });
        t.promise(23, "BAD.", () -> {
            t.bad("person", Stands::busy, (x, person) -> x.throwsFor(person, 0, 0), -1, 6);
            t.bad("window", Stands::busy, (x, window) -> x.throwsFor(0, window, 0), -1, 3);
            t.bad("what", Stands::busy, (x, what) -> x.throwsFor(0, 0, what), -1, 3);
        });
        t.promise(23, "(NONE isn't refused.)", () -> {
            ThrownRosesReturn x = Stands.busy();
            t.taken("the force of one with a rose", x, () -> x.throwsFor(0, 0, 1), Town.NONE);
            t.taken("the way of one with a rose", x, () -> x.throwsFor(0, 0, 2), Town.NONE);
        });
    }

    private static void hit(Sentences t) {
        t.promise(24, "HIT from a WINDOW.", () -> {
            ThrownRosesReturn x = Stands.full();
            t.taken("from the first", x, () -> x.hit(0), 0b00001111);
            t.taken("from the last", x, () -> x.hit(7), 0b11011111);
            x.tell(0, 0);
            t.taken("nobody", x, () -> x.hit(0), 0);
        });
        t.promise(24, "BAD.", () -> {
            t.bad("window", Stands::busy, ThrownRosesReturn::hit, -1, 3);
            t.bad("window of none", ThrownRosesReturn::new, ThrownRosesReturn::hit, -1, 0);
        });
    }

    private static void open(Sentences t) {
        t.promise(25, "OPEN (what 0), ASTRAY (1) of a WINDOW.", () -> {
            ThrownRosesReturn x = Stands.full();
            t.taken("open of the first", x, () -> x.open(0, 0), 0b1111);
            t.taken("open of the last", x, () -> x.open(7, 0), 0b111111111111);
            t.taken("astray of the first", x, () -> x.open(0, 1), 0b111111111);
            t.taken("astray of the last", x, () -> x.open(7, 1), 0b111111111111);
        });
        t.promise(25, "BAD.", () -> {
            t.bad("window", Stands::busy, (x, window) -> x.open(window, 0), -1, 3);
            t.bad("window astray", Stands::busy, (x, window) -> x.open(window, 1), -1, 3);
            t.bad("what", Stands::busy, (x, what) -> x.open(0, what), -1, 2);
        });
    }

    private static void whose(Sentences t) {
        t.promise(26, "WHOSE by THORNS for one: WINDOWS (what 0), STAIRS (1), TRY (2; NONE).", () -> {
            ThrownRosesReturn x = Stands.full();
            int[][] due = {{0, 0, 1, 1, 0}, {7, 7, 128, 3, 7}, {7, 0, 0, 0, -1}, {0, 9, 0, 0, -1}};
            for (int[] row : due) {
                for (int what = 0; what < 3; what++) {
                    int one = what;
                    t.taken("for " + row[0] + " by " + row[1] + ", what " + what, x,
                            () -> x.whose(row[0], row[1], one), row[2 + what]);
                }
            }
        });
        t.promise(26, "BAD.", () -> {
            t.bad("person", Stands::busy, (x, person) -> x.whose(person, 4, 0), -1, 6);
            t.bad("thorns", Stands::busy, (x, thorns) -> x.whose(0, thorns, 0), -1, 10);
            t.bad("what", Stands::busy, (x, what) -> x.whose(0, 4, what), -1, 3);
        });
        t.promise(26, "(NONE isn't refused.)", () -> {
            ThrownRosesReturn x = Stands.busy();
            t.taken("none of such thorns", x, () -> x.whose(0, 0, 2), Town.NONE);
        });
    }

    private static void fond(Sentences t) {
        t.promise(27, "FOND.", () -> {
            ThrownRosesReturn x = Stands.full();
            t.taken("of the first", x, () -> x.fond(0, 0), 10);
            t.taken("of the last", x, () -> x.fond(7, 7), 10);
            t.taken("of the first window and the last one", x, () -> x.fond(0, 7), 3);
            t.taken("of the last window and another", x, () -> x.fond(7, 1), 4);
        });
        t.promise(27, "BAD.", () -> {
            t.bad("window", Stands::busy, (x, window) -> x.fond(window, 5), -1, 3);
            t.bad("person", Stands::busy, (x, person) -> x.fond(0, person), -1, 6);
        });
    }

    private static void pairs(Sentences t) {
        t.promise(28, "PAIRS: FOND together (window NONE), whom a WINDOW has (NONE: nobody), "
                + "how many have somebody (window -2).", () -> {
            ThrownRosesReturn x = Stands.full();
            t.taken("together", x, () -> x.pairs(Town.NONE), 70);
            t.taken("how many", x, () -> x.pairs(-2), 7);
            for (int w = 0; w < 8; w++) {
                int one = w;
                t.taken("whom " + w + " has", x, () -> x.pairs(one), w == 5 ? Town.NONE : w);
            }
            ThrownRosesReturn y = new ThrownRosesReturn();
            t.taken("together, though no windows", y, () -> y.pairs(Town.NONE), 0);
            t.taken("how many, though no windows", y, () -> y.pairs(-2), 0);
        });
        t.promise(28, "BAD.", () -> {
            t.bad("window", Stands::busy, ThrownRosesReturn::pairs, -3, 3);
            t.bad("window of none", ThrownRosesReturn::new, ThrownRosesReturn::pairs, -3, 0);
            t.bad("window of eight", Stands::full, ThrownRosesReturn::pairs, -3, 8);
        });
        t.promise(28, "(NONE isn't refused.)", () -> {
            ThrownRosesReturn x = new ThrownRosesReturn();
            x.window(0, 1, 0);
            t.taken("nobody", x, () -> x.pairs(0), Town.NONE);
        });
    }

    private static void winds(Sentences t) {
        t.promise(29, "WINDS by the first n twos (0 to 20) of the ROW in SHELF s.", () -> {
            ThrownRosesReturn x = Stands.withRow(0, 5, 0, 6, 3, 3);
            t.taken("none", x, () -> x.winds(0, 0), 2047);
            t.taken("one", x, () -> x.winds(0, 1), 1 << 5);
            t.taken("two, and no further", x, () -> x.winds(0, 2), 0);
            x.row(7, 3, 40);
            for (int i = 0; i < 20; i++) {
                x.set(7, 2 * i + 1, 5);
            }
            t.taken("twenty", x, () -> x.winds(7, 20), 1 << 5);
            x.set(7, 39, 6);
            t.taken("the twentieth", x, () -> x.winds(7, 20), 0);
            t.taken("nineteen", x, () -> x.winds(7, 19), 1 << 5);
            x.row(6, 3, 0);
            t.taken("none of none", x, () -> x.winds(6, 0), 2047);
            ThrownRosesReturn y = new ThrownRosesReturn();
            y.row(0, 0, 0);
            t.taken("none, though no windows", y, () -> y.winds(0, 0), 2047);
        });
        t.promise(29, "BAD SHELF, n;", () -> {
            t.bad("shelf", Stands::busy, (x, s) -> x.winds(s, 0), -1, 8);
            t.bad("n", Stands::busy, (x, n) -> x.winds(0, n), -1, 21);
            t.bad("n, ahead of OTHER", Stands::busy, (x, n) -> x.winds(2, n), -1, 21);
            t.bad("n, ahead of NOTHING", Stands::busy, (x, n) -> x.winds(3, n), -1, 21);
        });
    }

    private static void windsRefusals(Sentences t) {
        t.promise(29, "OTHER;", () -> {
            t.refused("one of the people", Stands::busy, x -> x.winds(2, 0), Town.OTHER);
            t.refused("for twenty", Stands::busy, x -> x.winds(2, 20), Town.OTHER);
        });
        t.promise(29, "NOTHING;", () -> {
            t.refused("nothing", Stands::busy, x -> x.winds(3, 0), Town.NOTHING);
            t.refused("for twenty", Stands::busy, x -> x.winds(3, 20), Town.NOTHING);
        });
        t.promise(29, "BAD: fewer elements;", () -> {
            t.refused("three for two twos", () -> Stands.withRow(0, 5, 0), x -> x.winds(0, 2), Town.BAD);
            t.refused("none for one", Stands::busy, x -> x.winds(5, 1), Town.BAD);
            t.refused("ahead of STUCK", () -> Stands.withRow(3, 5, 0), x -> x.winds(0, 2), Town.BAD);
            ThrownRosesReturn y = Stands.withRow(0, 5, 0);
            t.taken("three for one", y, () -> y.winds(0, 1), 1 << 5);
        });
        t.promise(29, "STUCK: no THROW.", () -> {
            for (long bad : new long[] {-1, 3, 9, 93, 293, 300, 1L << 32, Long.MAX_VALUE, Long.MIN_VALUE}) {
                t.refused("of " + bad, () -> Stands.withRow(bad, 5), x -> x.winds(0, 1), Town.STUCK);
                t.refused("behind another, " + bad, () -> Stands.withRow(0, 5, bad, 5), x -> x.winds(0, 2), Town.STUCK);
            }
            ThrownRosesReturn y = Stands.withRow(292, 5, 300, 5);
            t.taken("the last there is", y, () -> y.winds(0, 1), 0);
            ThrownRosesReturn z = Stands.withRow(0, 300);
            t.taken("where it landed may be any", z, () -> z.winds(0, 1), 0);
            t.refused("no windows", Stands::noWindows, x -> x.winds(0, 1), Town.STUCK);
        });
    }

    private static void kinds(Sentences t) {
        t.promise(30, "KINDS of one by the first n twos (0 to 20) of the ROW in SHELF s.", () -> {
            ThrownRosesReturn x = Stands.withRow(0, 4, 1, 4, 2, 5, 3, 3);
            t.taken("none", x, () -> x.kinds(0, 0, 0), 63);
            t.taken("one", x, () -> x.kinds(0, 1, 0), 1);
            t.taken("two", x, () -> x.kinds(0, 2, 0), 1);
            t.taken("three, and no further", x, () -> x.kinds(0, 3, 0), 0);
            x.row(7, 3, 40);
            for (int i = 0; i < 20; i++) {
                x.set(7, 2 * i + 1, 10);
            }
            t.taken("twenty, of the last one", x, () -> x.kinds(7, 20, 5), 1 << 5);
            x.set(7, 39, 11);
            t.taken("the twentieth", x, () -> x.kinds(7, 20, 5), 0);
            t.taken("nineteen", x, () -> x.kinds(7, 19, 5), 1 << 5);
            ThrownRosesReturn y = Stands.noWindows();
            t.taken("none, though no windows", y, () -> y.kinds(0, 0, 0), 63);
        });
        t.promise(30, "BAD SHELF, n, person;", () -> {
            t.bad("shelf", Stands::busy, (x, s) -> x.kinds(s, 0, 0), -1, 8);
            t.bad("n", Stands::busy, (x, n) -> x.kinds(0, n, 0), -1, 21);
            t.bad("person", Stands::busy, (x, person) -> x.kinds(0, 0, person), -1, 6);
            t.bad("n, ahead of OTHER", Stands::busy, (x, n) -> x.kinds(2, n, 0), -1, 21);
            t.bad("n, ahead of NOTHING", Stands::busy, (x, n) -> x.kinds(3, n, 0), -1, 21);
            t.bad("person, ahead of OTHER", Stands::busy, (x, person) -> x.kinds(2, 0, person), -1, 6);
            t.bad("person, ahead of NOTHING", Stands::busy, (x, person) -> x.kinds(3, 0, person), -1, 6);
            t.bad("person, ahead of STUCK", Stands::busy, (x, person) -> x.kinds(1, 1, person), -1, 6);
        });
    }

    private static void kindsRefusals(Sentences t) {
        t.promise(30, "OTHER;", () -> {
            t.refused("one of the people", Stands::busy, x -> x.kinds(2, 0, 0), Town.OTHER);
            t.refused("for twenty", Stands::busy, x -> x.kinds(2, 20, 5), Town.OTHER);
        });
        t.promise(30, "NOTHING;", () -> {
            t.refused("nothing", Stands::busy, x -> x.kinds(3, 0, 0), Town.NOTHING);
            t.refused("for twenty", Stands::busy, x -> x.kinds(3, 20, 5), Town.NOTHING);
        });
        t.promise(30, "BAD: fewer elements;", () -> {
            t.refused("three for two twos", () -> Stands.withRow(0, 4, 1), x -> x.kinds(0, 2, 0), Town.BAD);
            t.refused("none for one", Stands::busy, x -> x.kinds(5, 1, 0), Town.BAD);
            t.refused("ahead of STUCK", () -> Stands.withRow(3, 4, 1), x -> x.kinds(0, 2, 0), Town.BAD);
            ThrownRosesReturn y = Stands.withRow(0, 4, 1);
            t.taken("three for one", y, () -> y.kinds(0, 1, 0), 1);
        });
        t.promise(30, "STUCK: no WINDOW.", () -> {
            for (long bad : new long[] {-1, 3, 1L << 32, Long.MAX_VALUE, Long.MIN_VALUE}) {
                t.refused("of " + bad, () -> Stands.withRow(bad, 4), x -> x.kinds(0, 1, 0), Town.STUCK);
                t.refused("behind another, " + bad, () -> Stands.withRow(0, 7, bad, 4), x -> x.kinds(0, 2, 0), Town.STUCK);
            }
            ThrownRosesReturn y = Stands.withRow(2, 4, 3, 4);
            t.taken("the last there is", y, () -> y.kinds(0, 1, 0), 1);
            t.refused("no windows", Stands::noWindows, x -> x.kinds(0, 1, 0), Town.STUCK);
        });
    }

    private static void chance(Sentences t) {
        t.promise(31, "CHANCE for one by a THROW.", () -> {
            ThrownRosesReturn x = Stands.full();
            t.taken("for the first", x, () -> x.chance(0, 0, 0, 0), 90909);
            t.taken("for the last", x, () -> x.chance(7, 7, 9, 2), 0);
            t.taken("for the last, by less force", x, () -> x.chance(7, 7, 5, 2), 90909);
            t.taken("for a HORSE that nobody hits", x, () -> x.chance(5, 5, 0, 0), 0);
        });
        t.promise(31, "BAD.", () -> {
            t.bad("person", Stands::busy, (x, person) -> x.chance(person, 0, 0, 0), -1, 6);
            t.bad("window", Stands::busy, (x, window) -> x.chance(0, window, 0, 0), -1, 3);
            t.bad("force", Stands::busy, (x, force) -> x.chance(0, 0, force, 0), -1, 10);
            t.bad("way", Stands::busy, (x, way) -> x.chance(0, 0, 0, way), -1, 3);
        });
    }

    private static void safest(Sentences t) {
        t.promise(32, "SAFEST for one from a WINDOW; NONE.", () -> {
            ThrownRosesReturn x = Stands.full();
            t.taken("for the first", x, () -> x.safest(0, 0), 0);
            t.taken("for the last", x, () -> x.safest(7, 7), 0);
            t.taken("for the last, from the first", x, () -> x.safest(7, 0), 61);
        });
        t.promise(32, "BAD.", () -> {
            t.bad("person", Stands::busy, (x, person) -> x.safest(person, 0), -1, 6);
            t.bad("window", Stands::busy, (x, window) -> x.safest(0, window), -1, 3);
        });
        t.promise(32, "(NONE isn't refused.)", () -> {
            ThrownRosesReturn x = Stands.full();
            t.taken("for a HORSE", x, () -> x.safest(5, 5), Town.NONE);
        });
    }

    private static void queue(Sentences t) {
        t.promise(33, "QUEUE of a WINDOW on a DAY (0 to 999).", () -> {
            ThrownRosesReturn x = Stands.full();
            x.thrown(0, 0, 0);
            t.taken("of the first on the first day", x, () -> x.queue(0, 0), 1);
            x.tell(1, 982);
            x.tell(2, 999);
            x.thrown(7, 0, 0);
            t.taken("of the last on the last day", x, () -> x.queue(7, 999), 1);
            t.taken("a day ahead of it", x, () -> x.queue(7, 998), 0);
        });
        t.promise(33, "BAD.", () -> {
            t.bad("window", Stands::busy, (x, window) -> x.queue(window, 4), -1, 3);
            t.bad("day", Stands::busy, (x, day) -> x.queue(0, day), -1, 1000);
        });
    }

    private static void longest(Sentences t) {
        t.promise(34, "LONGEST (what 0), CROWDED (1; NONE), the WINDOW of it (2; NONE).", () -> {
            ThrownRosesReturn x = Stands.full();
            t.taken("of none", x, () -> x.longest(0), 0);
            x.thrown(7, 0, 0);
            t.taken("one", x, () -> x.longest(0), 1);
            t.taken("the day", x, () -> x.longest(1), 17);
            t.taken("the window", x, () -> x.longest(2), 7);
            x.thrown(0, 0, 0);
            t.taken("the day of the first window", x, () -> x.longest(1), 0);
            t.taken("the first window", x, () -> x.longest(2), 0);
        });
        t.promise(34, "BAD.", () -> {
            t.bad("what", Stands::busy, ThrownRosesReturn::longest, -1, 3);
            t.bad("what, of none", ThrownRosesReturn::new, ThrownRosesReturn::longest, -1, 3);
        });
        t.promise(34, "(NONE isn't refused.)", () -> {
            ThrownRosesReturn x = new ThrownRosesReturn();
            t.taken("no day", x, () -> x.longest(1), Town.NONE);
            t.taken("no window", x, () -> x.longest(2), Town.NONE);
        });
    }

    private static void move(Sentences t) {
        t.promise(35, "MOVE for one: the CELL (what 0), from how many WINDOWS (1).", () -> {
            ThrownRosesReturn x = Stands.full();
            t.taken("the cell of the first", x, () -> x.move(0, 0), 3);
            t.taken("from how many", x, () -> x.move(0, 1), 8);
            t.taken("the cell of the last", x, () -> x.move(7, 0), 5);
            t.taken("from how many", x, () -> x.move(7, 1), 7);
            ThrownRosesReturn y = new ThrownRosesReturn();
            y.window(11, 1, 0);
            y.person(1, 0, 0);
            y.tell(0, 8);
            t.taken("the last cell of all", y, () -> y.move(0, 0), 11);
            t.taken("from one", y, () -> y.move(0, 1), 1);
            y.tell(0, 9);
            t.taken("no cell is better", y, () -> y.move(0, 0), 0);
            t.taken("from none", y, () -> y.move(0, 1), 0);
        });
        t.promise(35, "BAD.", () -> {
            t.bad("person", Stands::busy, (x, person) -> x.move(person, 0), -1, 6);
            t.bad("what", Stands::busy, (x, what) -> x.move(0, what), -1, 2);
        });
    }

    private static void rival(Sentences t) {
        t.promise(36, "RIVAL of one for a THROW; NONE.", () -> {
            ThrownRosesReturn x = Stands.full();
            t.taken("of the first", x, () -> x.rival(0, 0, 0, 0), 2);
            t.taken("of the last", x, () -> x.rival(7, 7, 0, 0), 6);
            t.taken("of one who doesn't catch it", x, () -> x.rival(7, 0, 0, 0), 0);
            t.taken("of none", x, () -> x.rival(0, 7, 1, 1), Town.NONE);
        });
        t.promise(36, "BAD.", () -> {
            t.bad("person", Stands::busy, (x, person) -> x.rival(person, 0, 0, 0), -1, 6);
            t.bad("window", Stands::busy, (x, window) -> x.rival(0, window, 0, 0), -1, 3);
            t.bad("force", Stands::busy, (x, force) -> x.rival(0, 0, force, 0), -1, 10);
            t.bad("way", Stands::busy, (x, way) -> x.rival(0, 0, 0, way), -1, 3);
        });
        t.promise(36, "(NONE isn't refused.)", () -> {
            ThrownRosesReturn x = new ThrownRosesReturn();
            x.window(0, 1, 0);
            x.person(0, 0, 0);
            t.taken("he alone", x, () -> x.rival(0, 0, 0, 0), Town.NONE);
        });
    }

    /** Two RAKES due today, one SHY due in 3 days, one HORSE that never comes; the last has no rose. */
    private static ThrownRosesReturn bearers() {
        ThrownRosesReturn x = new ThrownRosesReturn();
        x.window(5, 2, 0);
        x.person(1, 0, 5);
        x.person(5, 0, 5);
        x.person(4, 0, 5);
        x.person(4, 0, 5);
        for (int i = 0; i < 4; i++) {
            x.thrown(0, 0, 0);
        }
        x.person(0, 0, 5);
        return x;
    }

    private static void having(Sentences t) {
        t.promise(37, "PEOPLE (bits) who have a ROSE (what 0), who never COME with it (1), "
                + "who are DUE on the DAY that comes first (2).", () -> {
            ThrownRosesReturn x = bearers();
            t.taken("have one", x, () -> x.having(0), 0b01111);
            t.taken("never come", x, () -> x.having(1), 0b00010);
            t.taken("come first", x, () -> x.having(2), 0b01100);
            x.days(1);
            t.taken("have one still", x, () -> x.having(0), 0b00011);
            t.taken("comes then", x, () -> x.having(2), 0b00001);
            x.tell(1, 500);
            t.taken("whatever DAY is", x, () -> x.having(2), 0b00001);
            x.days(1);
            t.taken("only who never comes", x, () -> x.having(0), 0b00010);
            t.taken("nobody comes", x, () -> x.having(2), 0);
            ThrownRosesReturn y = new ThrownRosesReturn();
            for (int what = 0; what < 3; what++) {
                int one = what;
                t.taken("nobody, what " + what, y, () -> y.having(one), 0);
            }
            ThrownRosesReturn z = Stands.full();
            z.thrown(7, 0, 0);
            t.taken("the eighth", z, () -> z.having(0), 128);
            t.taken("the eighth comes first", z, () -> z.having(2), 128);
        });
        t.promise(37, "BAD.", () -> t.bad("what", Stands::busy, ThrownRosesReturn::having, -1, 3));
    }

    private static void due(Sentences t) {
        t.promise(38, "The first DAY on which somebody is DUE (what 0; NONE), the last (1; NONE).", () -> {
            ThrownRosesReturn x = bearers();
            t.taken("the first", x, () -> x.due(0), 0);
            t.taken("the last", x, () -> x.due(1), 3);
            x.days(1);
            t.taken("the first then", x, () -> x.due(0), 3);
            t.taken("the last then", x, () -> x.due(1), 3);
            x.days(2);
            t.taken("of one who never comes, no first", x, () -> x.due(0), Town.NONE);
            t.taken("of one who never comes, no last", x, () -> x.due(1), Town.NONE);
            ThrownRosesReturn y = Stands.full();
            y.tell(1, 999);
            y.tell(2, 999);
            y.thrown(0, 0, 0);
            t.taken("999 as the first", y, () -> y.due(0), 999);
            t.taken("999 as the last", y, () -> y.due(1), 999);
            ThrownRosesReturn z = Stands.full();
            z.thrown(7, 0, 0);
            z.thrown(1, 0, 0);
            t.taken("the first of another ahead", z, () -> z.due(0), 5);
            t.taken("the last of another behind", z, () -> z.due(1), 17);
            z.thrown(3, 0, 0);
            z.thrown(2, 0, 0);
            t.taken("the first in between", z, () -> z.due(0), 1);
            t.taken("the last still", z, () -> z.due(1), 17);
        });
        t.promise(38, "BAD.", () -> t.bad("what", Stands::busy, ThrownRosesReturn::due, -1, 2));
        t.promise(38, "(NONE isn't refused.)", () -> {
            ThrownRosesReturn x = new ThrownRosesReturn();
            t.taken("no first", x, () -> x.due(0), Town.NONE);
            t.taken("no last", x, () -> x.due(1), Town.NONE);
        });
    }
}
