/** The lines of promises 39 to 53, by sentences; for Stands.full() see OutcomePromises. */
final class MeasurePromises {
    private MeasurePromises() {
    }

    static void test(Sentences t) {
        lentFor(t);
        best(t);
        bed(t);
        off(t);
        windFor(t);
        catches(t);
        gaps(t);
        between(t);
        fondest(t);
        admirer(t);
        reached(t);
        late(t);
        ofKind(t);
        judge(t);
        judgeRefusals(t);
        behind(t);
        behindRefusals(t);
    }

    private static void lentFor(Sentences t) {
        t.promise(39, "The least LENT (0 to 999) by which one, with a ROSE of a WINDOW today, COMES; NONE.", () -> {
            ThrownRosesReturn x = Stands.full();
            t.taken("0", x, () -> x.lentFor(0, 0), 0);
            t.taken("of the last", x, () -> x.lentFor(7, 7), 17);
            x.tell(2, 0);
            t.taken("whatever LENT is", x, () -> x.lentFor(7, 7), 17);
            x.tell(1, 982);
            t.taken("999", x, () -> x.lentFor(7, 7), 999);
            x.tell(1, 983);
            t.taken("behind it", x, () -> x.lentFor(7, 7), Town.NONE);
            x.tell(1, 999);
            t.taken("999 on the last day", x, () -> x.lentFor(0, 0), 999);
            t.taken("a day behind it", x, () -> x.lentFor(2, 0), Town.NONE);
            x.tell(1, 1);
            t.taken("a HORSE to floor 1", x, () -> x.lentFor(5, 0), 16);
            t.taken("a HORSE to floor 2", x, () -> x.lentFor(5, 1), Town.NONE);
        });
        t.promise(39, "BAD.", () -> {
            t.bad("person", Stands::busy, (x, person) -> x.lentFor(person, 0), -1, 6);
            t.bad("window", Stands::busy, (x, window) -> x.lentFor(0, window), -1, 3);
        });
        t.promise(39, "(NONE isn't refused.)", () -> {
            ThrownRosesReturn x = Town.built();
            t.taken("a HORSE", x, () -> x.lentFor(5, 2), Town.NONE);
        });
    }

    private static void best(Sentences t) {
        t.promise(40, "The WINDOW from which most PEOPLE can be hit (what 0), by how many (1), of several the first.", () -> {
            ThrownRosesReturn x = Stands.full();
            t.taken("the first by whom seven", x, () -> x.best(0), 1);
            t.taken("seven", x, () -> x.best(1), 7);
            ThrownRosesReturn y = new ThrownRosesReturn();
            y.window(11, 1, 0);
            y.window(0, 1, 0);
            bestIs(t, y, 0, 0);
            y.person(1, 0, 3);
            bestIs(t, y, 1, 1);
            y.person(1, 0, 8);
            bestIs(t, y, 0, 1);
            for (int w = 2; w < 8; w++) {
                y.window(0, 1, 0);
            }
            bestIs(t, y, 0, 1);
            y.put(0, 9);
            y.put(1, 9);
            bestIs(t, y, 0, 1);
            y.put(1, 10);
            bestIs(t, y, 0, 2);
            y.thrown(0, 3, 2);
            bestIs(t, y, 0, 1);
            ThrownRosesReturn z = Stands.full();
            for (int p = 0; p < 8; p++) {
                z.put(p, 11);
            }
            z.put(7, 6);
            z.tell(0, 10);
            t.taken("as WIND is", z, () -> z.best(0), 1);
        });
        t.promise(40, "BAD;", () -> {
            t.bad("what", Stands::busy, ThrownRosesReturn::best, -1, 2);
            t.bad("what, ahead of STUCK", ThrownRosesReturn::new, ThrownRosesReturn::best, -1, 2);
        });
        t.promise(40, "STUCK: no WINDOWS.", () -> {
            t.refused("which", ThrownRosesReturn::new, x -> x.best(0), Town.STUCK);
            t.refused("by how many", ThrownRosesReturn::new, x -> x.best(1), Town.STUCK);
            t.refused("which, though there are people", Stands::noWindows, x -> x.best(0), Town.STUCK);
        });
    }

    private static void bestIs(Sentences t, ThrownRosesReturn x, int window, int people) {
        t.taken("the window", x, () -> x.best(0), window);
        t.taken("by how many", x, () -> x.best(1), people);
    }

    private static void bed(Sentences t) {
        t.promise(41, "The CELL where most THROWS of all WINDOWS LAND (30 each), of several the first (what 0), how many (1).",
                () -> {
            ThrownRosesReturn x = new ThrownRosesReturn();
            bedIs(t, x, 0, 0);
            x.window(0, 1, 0);
            bedIs(t, x, 0, 16);
            x.window(11, 1, 0);
            bedIs(t, x, 0, 16);
            x.window(11, 1, 0);
            bedIs(t, x, 11, 32);
            x.tell(0, 0);
            bedIs(t, x, 6, 32);
            ThrownRosesReturn y = new ThrownRosesReturn();
            y.window(0, 1, 0);
            y.tell(0, 0);
            bedIs(t, y, 0, 0);
            y.tell(0, 5);
            for (int w = 1; w < 8; w++) {
                y.window(5, 1, 0);
            }
            bedIs(t, y, 5, 112);
            ThrownRosesReturn z = new ThrownRosesReturn();
            z.window(11, 1, 0);
            bedIs(t, z, 11, 16);
            z.tell(0, 10);
            bedIs(t, z, 0, 0);
        });
        t.promise(41, "BAD.", () -> {
            t.bad("what", Stands::busy, ThrownRosesReturn::bed, -1, 2);
            t.bad("what, though no windows", ThrownRosesReturn::new, ThrownRosesReturn::bed, -1, 2);
        });
    }

    private static void bedIs(Sentences t, ThrownRosesReturn x, int cell, int landings) {
        t.taken("the cell", x, () -> x.bed(0), cell);
        t.taken("how many", x, () -> x.bed(1), landings);
    }

    private static void off(Sentences t) {
        t.promise(42, "How many THROWS of a WINDOW go off the street.", () -> {
            ThrownRosesReturn x = Stands.full();
            t.taken("of the first", x, () -> x.off(0), 7);
            t.taken("of the last", x, () -> x.off(7), 7);
            x.tell(0, 0);
            t.taken("all", x, () -> x.off(0), 30);
            x.tell(0, 5);
            x.paves(30);
            t.taken("of a longer street", x, () -> x.off(7), 2);
            ThrownRosesReturn y = new ThrownRosesReturn();
            y.paves(20);
            y.window(10, 3, 0);
            t.taken("none", y, () -> y.off(0), 0);
        });
        t.promise(42, "BAD.", () -> t.bad("window", Stands::busy, ThrownRosesReturn::off, -1, 3));
    }

    private static void windFor(Sentences t) {
        t.promise(43, "The WIND (0 to 10) by which one CATCHES a THROW, the least; NONE.", () -> {
            ThrownRosesReturn x = new ThrownRosesReturn();
            x.window(5, 3, 0);
            x.person(1, 0, 0);
            t.taken("0", x, () -> x.windFor(0, 0, 0, 0), 0);
            x.put(0, 10);
            t.taken("10", x, () -> x.windFor(0, 0, 0, 0), 10);
            x.put(0, 11);
            t.taken("none", x, () -> x.windFor(0, 0, 0, 0), Town.NONE);
            t.taken("by more force", x, () -> x.windFor(0, 0, 1, 1), 10);
            x.person(4, 0, 5);
            t.taken("the least of seven", x, () -> x.windFor(1, 0, 0, 0), 2);
            x.tell(0, 9);
            t.taken("whatever WIND is", x, () -> x.windFor(1, 0, 0, 0), 2);
            x.tell(0, 5);
            x.thrown(0, 0, 0);
            t.taken("with a rose", x, () -> x.windFor(1, 0, 0, 0), Town.NONE);
            ThrownRosesReturn y = new ThrownRosesReturn();
            y.window(8, 3, 0);
            y.person(4, 0, 2);
            t.taken("0 of several", y, () -> y.windFor(0, 0, 0, 0), 0);
            y.put(0, 11);
            y.window(3, 3, 0);
            t.taken("10 and no further", y, () -> y.windFor(0, 1, 0, 0), 10);
            t.taken("1 below it", y, () -> y.windFor(0, 1, 1, 1), 9);
        });
        t.promise(43, "BAD.", () -> {
            t.bad("person", Stands::busy, (x, person) -> x.windFor(person, 0, 0, 0), -1, 6);
            t.bad("window", Stands::busy, (x, window) -> x.windFor(0, window, 0, 0), -1, 3);
            t.bad("force", Stands::busy, (x, force) -> x.windFor(0, 0, force, 0), -1, 10);
            t.bad("way", Stands::busy, (x, way) -> x.windFor(0, 0, 0, way), -1, 3);
        });
        t.promise(43, "(NONE isn't refused.)", () -> {
            ThrownRosesReturn x = Stands.full();
            t.taken("a HORSE that nobody hits", x, () -> x.windFor(5, 5, 0, 0), Town.NONE);
        });
    }

    private static void catches(Sentences t) {
        t.promise(44, "Who would CATCH a ROSE that LANDS in a CELL; NONE.", () -> {
            ThrownRosesReturn x = Stands.full();
            int[] due = {0, 1, 2, 3, 4, 4, 6, 7, -1, -1, -1, -1};
            for (int cell = 0; cell < 12; cell++) {
                int one = cell;
                t.taken("in " + cell, x, () -> x.catches(one), due[cell]);
            }
            x.thrown(0, 0, 0);
            t.taken("as he has a rose", x, () -> x.catches(0), 2);
            x.paves(30);
            x.put(7, 29);
            t.taken("in the last of 30", x, () -> x.catches(29), 7);
        });
        t.promise(44, "BAD.", () -> {
            t.bad("cell of 13", Stands::busy, ThrownRosesReturn::catches, -1, 13);
            t.bad("cell of 12", Stands::full, ThrownRosesReturn::catches, -1, 12);
        });
        t.promise(44, "(NONE isn't refused.)", () -> {
            ThrownRosesReturn x = new ThrownRosesReturn();
            t.taken("nobody", x, () -> x.catches(0), Town.NONE);
        });
    }

    private static void gaps(Sentences t) {
        t.promise(45, "CELLS (bits) in which nobody would CATCH one.", () -> {
            ThrownRosesReturn x = new ThrownRosesReturn();
            t.taken("all of 12", x, x::gaps, 0b111111111111);
            x.person(4, 0, 3);
            t.taken("all but seven", x, x::gaps, 0b111110000000);
            x.person(4, 0, 9);
            t.taken("none", x, x::gaps, 0);
            x.window(9, 1, 0);
            x.thrown(0, 0, 0);
            t.taken("as one has a rose", x, x::gaps, 0b111110000000);
            x.put(0, 0);
            t.taken("at the end", x, x::gaps, 0b111111110000);
            ThrownRosesReturn y = new ThrownRosesReturn();
            y.paves(30);
            t.taken("all of 30", y, y::gaps, (1 << 30) - 1);
            y.person(1, 0, 29);
            t.taken("but for the last", y, y::gaps, (1 << 29) - 1);
        });
    }

    private static void between(Sentences t) {
        t.promise(46, "CELLS (bits) that are OPEN to two WINDOWS both (they may be the same).", () -> {
            ThrownRosesReturn x = Stands.full();
            t.taken("the first and the last", x, () -> x.between(0, 7), 0b1111);
            t.taken("the last and the first", x, () -> x.between(7, 0), 0b1111);
            t.taken("the last and the last", x, () -> x.between(7, 7), 0b111111111111);
            t.taken("the first and the first", x, () -> x.between(0, 0), 0b1111);
            t.taken("the end of one and the begin of another", x, () -> x.between(0, 5), 0b1100);
            ThrownRosesReturn y = new ThrownRosesReturn();
            y.window(0, 1, 0);
            y.window(11, 1, 0);
            t.taken("far apart", y, () -> y.between(0, 1), 0);
        });
        t.promise(46, "BAD.", () -> {
            t.bad("window", Stands::busy, (x, window) -> x.between(window, 0), -1, 3);
            t.bad("other", Stands::busy, (x, other) -> x.between(0, other), -1, 3);
        });
    }

    private static void fondest(Sentences t) {
        t.promise(47, "The one of greatest FOND of those HIT from a WINDOW, of several the first; NONE.", () -> {
            ThrownRosesReturn y = Stands.full();
            t.taken("the first", y, () -> y.fondest(0), 0);
            t.taken("the last", y, () -> y.fondest(7), 7);
            ThrownRosesReturn x = new ThrownRosesReturn();
            x.window(5, 1, 0);
            t.taken("nobody there", x, () -> x.fondest(0), Town.NONE);
            x.person(1, 9, 9);
            t.taken("one just too far", x, () -> x.fondest(0), Town.NONE);
            x.person(1, 9, 8);
            t.taken("of FOND 1", x, () -> x.fondest(0), 1);
            x.person(1, 3, 7);
            t.taken("the fonder", x, () -> x.fondest(0), 2);
            x.person(1, 3, 6);
            t.taken("of several", x, () -> x.fondest(0), 2);
            x.person(1, 0, 9);
            t.taken("not one too far", x, () -> x.fondest(0), 2);
            x.thrown(0, 6, 1);
            t.taken("not one with a rose", x, () -> x.fondest(0), 3);
            x.person(1, 9, 2);
            x.person(1, 9, 3);
            x.person(1, 0, 2);
            t.taken("not the eighth behind another", x, () -> x.fondest(0), 3);
            x.put(7, 4);
            t.taken("the eighth", x, () -> x.fondest(0), 7);
        });
        t.promise(47, "BAD.", () -> t.bad("window", Stands::busy, ThrownRosesReturn::fondest, -1, 3));
        t.promise(47, "(NONE isn't refused.)", () -> {
            ThrownRosesReturn x = Stands.full();
            x.tell(0, 0);
            t.taken("all off the street", x, () -> x.fondest(0), Town.NONE);
        });
    }

    private static void admirer(Sentences t) {
        t.promise(48, "The WINDOW of greatest FOND of those from which one can be HIT, of several the first; NONE.", () -> {
            ThrownRosesReturn x = new ThrownRosesReturn();
            x.person(1, 5, 5);
            t.taken("no windows", x, () -> x.admirer(0), Town.NONE);
            x.window(1, 1, 5);
            t.taken("one just too far", x, () -> x.admirer(0), Town.NONE);
            x.window(2, 1, 0);
            t.taken("one just near", x, () -> x.admirer(0), 1);
            x.window(5, 1, 9);
            t.taken("the fonder", x, () -> x.admirer(0), 2);
            x.window(5, 1, 1);
            t.taken("of several", x, () -> x.admirer(0), 2);
            x.window(5, 1, 5);
            t.taken("the fondest", x, () -> x.admirer(0), 4);
            x.thrown(4, 0, 0);
            t.taken("with a rose", x, () -> x.admirer(0), Town.NONE);
            ThrownRosesReturn y = Stands.full();
            t.taken("the first", y, () -> y.admirer(0), 0);
            t.taken("the last", y, () -> y.admirer(7), 7);
            ThrownRosesReturn z = new ThrownRosesReturn();
            z.window(0, 1, 9);
            z.person(1, 0, 0);
            t.taken("of FOND 1", z, () -> z.admirer(0), 0);
            z.person(4, 0, 6);
            t.taken("a RAKE just near", z, () -> z.admirer(1), 0);
            z.put(1, 7);
            t.taken("a RAKE just too far", z, () -> z.admirer(1), Town.NONE);
        });
        t.promise(48, "BAD.", () -> t.bad("person", Stands::busy, ThrownRosesReturn::admirer, -1, 6));
        t.promise(48, "(NONE isn't refused.)", () -> {
            ThrownRosesReturn x = Stands.full();
            t.taken("a HORSE that nobody hits", x, () -> x.admirer(5), Town.NONE);
        });
    }

    private static void reached(Sentences t) {
        t.promise(49, "PEOPLE (bits) who REACH a CELL (with a ROSE or not).", () -> {
            ThrownRosesReturn x = Stands.full();
            t.taken("the first", x, () -> x.reached(0), 0b00000101);
            t.taken("the last", x, () -> x.reached(7), 0b11010000);
            t.taken("nobody", x, () -> x.reached(11), 0);
            x.thrown(0, 0, 0);
            x.thrown(7, 0, 0);
            t.taken("with a rose", x, () -> x.reached(0), 0b00000101);
            t.taken("with a rose, the last", x, () -> x.reached(7), 0b11010000);
            int[] far = {1, 0, 2, 0, 3, 1};
            for (int kind = 0; kind < 6; kind++) {
                ThrownRosesReturn y = new ThrownRosesReturn();
                y.person(kind, 0, 5);
                for (int off = 0; off <= 4; off++) {
                    int one = off;
                    int due = off <= far[kind] ? 1 : 0;
                    t.taken("kind " + kind + ", " + off + " up", y, () -> y.reached(5 + one), due);
                    t.taken("kind " + kind + ", " + off + " down", y, () -> y.reached(5 - one), due);
                }
            }
        });
        t.promise(49, "BAD.", () -> {
            t.bad("cell of 13", Stands::busy, ThrownRosesReturn::reached, -1, 13);
            t.bad("cell of 12", Stands::full, ThrownRosesReturn::reached, -1, 12);
        });
    }

    private static void late(Sentences t) {
        t.promise(50, "WINDOWS (bits) with whose ROSE, had he it today, one wouldn't COME.", () -> {
            ThrownRosesReturn x = Stands.full();
            t.taken("none", x, () -> x.late(7), 0);
            t.taken("a HORSE but to floor 1", x, () -> x.late(5), 0b11011110);
            x.tell(2, 17);
            t.taken("on LENT", x, () -> x.late(7), 0);
            x.tell(2, 16);
            t.taken("a day late", x, () -> x.late(7), 0b11111111);
            x.tell(2, 14);
            t.taken("a HORSE", x, () -> x.late(5), 0b11111111);
            x.tell(2, 11);
            t.taken("a TIMID one to floors above 2", x, () -> x.late(3), 0b10011100);
            x.tell(2, 0);
            t.taken("one who takes no day", x, () -> x.late(0), 0);
            ThrownRosesReturn y = new ThrownRosesReturn();
            y.person(0, 9, 0);
            y.tell(2, 0);
            t.taken("no windows", y, () -> y.late(0), 0);
        });
        t.promise(50, "BAD.", () -> t.bad("person", Stands::busy, ThrownRosesReturn::late, -1, 6));
    }

    private static void ofKind(Sentences t) {
        t.promise(51, "How many of the PEOPLE are of just a KIND.", () -> {
            ThrownRosesReturn x = Stands.full();
            int[] due = {2, 2, 1, 1, 1, 1};
            for (int kind = 0; kind < 6; kind++) {
                int one = kind;
                t.taken("kind " + kind, x, () -> x.ofKind(one), due[kind]);
                ThrownRosesReturn y = new ThrownRosesReturn();
                t.taken("none of " + kind, y, () -> y.ofKind(one), 0);
                for (int p = 0; p < 8; p++) {
                    y.person(kind, 0, 0);
                }
                for (int other = 0; other < 6; other++) {
                    t.due("all of " + kind + ", asked for " + other, y.ofKind(other), other == kind ? 8 : 0);
                }
            }
        });
        t.promise(51, "BAD.", () -> t.bad("kind", Stands::busy, ThrownRosesReturn::ofKind, -1, 6));
    }

    private static void judge(Sentences t) {
        t.promise(52, "A told LOG by the first n elements (0 to 40) of the ROW in SHELF s: WRONG; NONE.", () -> {
            ThrownRosesReturn x = Stands.withRow(0, 292, 300);
            t.taken("none", x, () -> x.judge(0, 0), Town.NONE);
            t.taken("two, and no further", x, () -> x.judge(0, 2), Town.NONE);
            t.taken("three", x, () -> x.judge(0, 3), 2);
            x.row(7, 3, 40);
            t.taken("forty", x, () -> x.judge(7, 40), Town.NONE);
            x.set(7, 39, 3);
            t.taken("the fortieth", x, () -> x.judge(7, 40), 39);
            t.taken("thirty-nine", x, () -> x.judge(7, 39), Town.NONE);
            x.row(6, 3, 0);
            t.taken("none of none", x, () -> x.judge(6, 0), Town.NONE);
            ThrownRosesReturn y = Stands.noWindows();
            t.taken("no windows", y, () -> y.judge(0, 1), 0);
            t.taken("none, though no windows", y, () -> y.judge(0, 0), Town.NONE);
        });
        t.promise(52, "BAD SHELF, n;", () -> {
            t.bad("shelf", Stands::busy, (x, s) -> x.judge(s, 0), -1, 8);
            t.bad("n", Stands::busy, (x, n) -> x.judge(0, n), -1, 41);
            t.bad("n, ahead of OTHER", Stands::busy, (x, n) -> x.judge(2, n), -1, 41);
            t.bad("n, ahead of NOTHING", Stands::busy, (x, n) -> x.judge(3, n), -1, 41);
        });
    }

    private static void judgeRefusals(Sentences t) {
        t.promise(52, "OTHER;", () -> {
            t.refused("one of the people", Stands::busy, x -> x.judge(2, 0), Town.OTHER);
            t.refused("for forty", Stands::busy, x -> x.judge(2, 40), Town.OTHER);
        });
        t.promise(52, "NOTHING;", () -> {
            t.refused("nothing", Stands::busy, x -> x.judge(3, 0), Town.NOTHING);
            t.refused("for forty", Stands::busy, x -> x.judge(3, 40), Town.NOTHING);
        });
        t.promise(52, "BAD: fewer elements.", () -> {
            t.refused("three for four", Stands::busy, x -> x.judge(0, 4), Town.BAD);
            t.refused("none for one", Stands::busy, x -> x.judge(5, 1), Town.BAD);
            t.refused("three for forty", Stands::busy, x -> x.judge(0, 40), Town.BAD);
            ThrownRosesReturn y = Stands.busy();
            t.taken("three for three", y, () -> y.judge(0, 3), 1);
        });
    }

    private static void behind(Sentences t) {
        t.promise(53, "BEHIND it: who has ROSES (what 0), CAUGHT (1), not CAUGHT (2), off (3).", () -> {
            ThrownRosesReturn x = Stands.withRow(0, 0, 0, 71, 300);
            int[][] due = {{0, 0, 0, 0}, {1, 1, 0, 0}, {9, 2, 0, 0}, {9, 2, 1, 0}, {9, 2, 1, 1}};
            for (int n = 0; n <= 4; n++) {
                for (int what = 0; what < 4; what++) {
                    int many = n;
                    int one = what;
                    t.taken("what " + what + " behind " + n, x, () -> x.behind(0, many, one), due[n][what]);
                }
            }
            x.row(7, 3, 40);
            t.taken("forty, not caught", x, () -> x.behind(7, 40, 2), 38);
            for (int i = 0; i < 40; i++) {
                x.set(7, i, 291);
            }
            t.taken("forty, off", x, () -> x.behind(7, 40, 3), 40);
            ThrownRosesReturn y = Stands.noWindows();
            t.taken("none, though no windows", y, () -> y.behind(0, 0, 0), 0);
        });
        t.promise(53, "BAD SHELF, n, what;", () -> {
            t.bad("shelf", Stands::busy, (x, s) -> x.behind(s, 0, 0), -1, 8);
            t.bad("n", Stands::busy, (x, n) -> x.behind(0, n, 0), -1, 41);
            t.bad("what", Stands::busy, (x, what) -> x.behind(0, 0, what), -1, 4);
            t.bad("n, ahead of OTHER", Stands::busy, (x, n) -> x.behind(2, n, 0), -1, 41);
            t.bad("n, ahead of NOTHING", Stands::busy, (x, n) -> x.behind(3, n, 0), -1, 41);
            t.bad("what, ahead of OTHER", Stands::busy, (x, what) -> x.behind(2, 0, what), -1, 4);
            t.bad("what, ahead of NOTHING", Stands::busy, (x, what) -> x.behind(3, 0, what), -1, 4);
            t.bad("what, ahead of STUCK", Stands::busy, (x, what) -> x.behind(1, 1, what), -1, 4);
        });
    }

    private static void behindRefusals(Sentences t) {
        t.promise(53, "OTHER;", () -> {
            t.refused("one of the people", Stands::busy, x -> x.behind(2, 0, 0), Town.OTHER);
            t.refused("for forty", Stands::busy, x -> x.behind(2, 40, 3), Town.OTHER);
        });
        t.promise(53, "NOTHING;", () -> {
            t.refused("nothing", Stands::busy, x -> x.behind(3, 0, 0), Town.NOTHING);
            t.refused("for forty", Stands::busy, x -> x.behind(3, 40, 3), Town.NOTHING);
        });
        t.promise(53, "BAD: fewer elements;", () -> {
            t.refused("three for four", () -> Stands.withRow(0, 0, 0), x -> x.behind(0, 4, 0), Town.BAD);
            t.refused("none for one", Stands::busy, x -> x.behind(5, 1, 0), Town.BAD);
            t.refused("ahead of STUCK", Stands::busy, x -> x.behind(1, 4, 0), Town.BAD);
            ThrownRosesReturn y = Stands.withRow(0, 0, 0);
            t.taken("three for three", y, () -> y.behind(0, 3, 1), 2);
        });
        t.promise(53, "STUCK: it is WRONG.", () -> {
            for (long bad : new long[] {-1, 3, 9, 293, 300, 1L << 32, Long.MAX_VALUE, Long.MIN_VALUE}) {
                t.refused("by " + bad, () -> Stands.withRow(bad), x -> x.behind(0, 1, 0), Town.STUCK);
                t.refused("behind another, by " + bad, () -> Stands.withRow(0, bad), x -> x.behind(0, 2, 3), Town.STUCK);
            }
            t.refused("no windows", Stands::noWindows, x -> x.behind(0, 1, 0), Town.STUCK);
            ThrownRosesReturn y = Stands.withRow(292, 300);
            t.taken("but not so far", y, () -> y.behind(0, 1, 3), 1);
        });
    }
}
