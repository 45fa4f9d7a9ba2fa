/** The words on THE STREET, its windows and people, and on refusals. */
final class StreetSentences {
    private StreetSentences() {
    }

    static void test(Sentences t) {
        numbersOfTheStreet(t);
        windows(t);
        people(t);
        kinds(t);
        roses(t);
        refusals(t);
        wishes(t);
    }

    private static void numbersOfTheStreet(Sentences t) {
        t.terms(12, "CELLS have numbers, 0 to n less 1", () -> {
            ThrownRosesReturn x = new ThrownRosesReturn();
            x.person(0, 0, 5);
            t.taken("the first", x, () -> x.put(0, 0), 5);
            t.taken("the last of 12", x, () -> x.put(0, 11), 0);
            t.refused("cell -1", Stands::busy, y -> y.put(0, -1), Town.BAD);
            t.refused("cell 13 of 13", Stands::busy, y -> y.put(0, 13), Town.BAD);
            x.paves(30);
            t.taken("the last of 30", x, () -> x.put(0, 29), 11);
            t.refused("cell 30 of 30", StreetSentences::paved, y -> y.put(0, 30), Town.BAD);
        });
        t.terms(9, "(n: 2 to 30; 12 at first)", () -> {
            ThrownRosesReturn x = new ThrownRosesReturn();
            t.due("12 at first", x.status(2), 12);
            t.taken("30", x, () -> x.paves(30), 12);
            t.refused("31", StreetSentences::paved, y -> y.paves(31), Town.BAD);
            t.refused("2, as there are more", ThrownRosesReturn::new, y -> y.paves(2), Town.BAD);
            t.refused("1", ThrownRosesReturn::new, y -> y.paves(1), Town.BAD);
        });
        t.terms(13, "WIND (0 to 10; 5, none, at first)", () -> {
            ThrownRosesReturn x = new ThrownRosesReturn();
            x.window(6, 3, 0);
            t.due("5 at first", x.status(3), 5);
            t.due("none at 5", x.lands(0, 0, 0), 6);
            t.taken("0", x, () -> x.tell(0, 0), 5);
            t.taken("10", x, () -> x.tell(0, 10), 0);
            t.refused("-1", Stands::busy, y -> y.tell(0, -1), Town.BAD);
            t.refused("11", Stands::busy, y -> y.tell(0, 11), Town.BAD);
        });
        t.terms(13, "DAY (0 to 999; 0 at first)", () -> number(t, 1, 0, 4));
        t.terms(13, "LENT (0 to 999; 40 at first)", () -> number(t, 2, 40, 5));
        t.terms(55, "SAID (how many were brought back; 0 at first)", () -> {
            ThrownRosesReturn x = Town.built();
            t.due("0 at first", x.status(6), 0);
            x.thrown(1, 0, 0);
            t.due("not when it is caught", x.status(6), 0);
            t.due("when it is brought back", x.days(1), 1);
            t.due("and stays", x.days(1), 1);
        });
    }

    private static ThrownRosesReturn paved() {
        ThrownRosesReturn x = Town.built();
        x.paves(30);
        return x;
    }

    private static void number(Sentences t, int what, int first, int status) {
        ThrownRosesReturn x = new ThrownRosesReturn();
        t.due("at first", x.status(status), first);
        t.taken("0", x, () -> x.tell(what, 0), first);
        t.taken("999", x, () -> x.tell(what, 999), 0);
        t.due("is", x.status(status), 999);
        t.refused("-1", Stands::busy, y -> y.tell(what, -1), Town.BAD);
        t.refused("1000", Stands::busy, y -> y.tell(what, 1000), Town.BAD);
    }

    private static void windows(Sentences t) {
        t.terms(10, "WINDOWS have numbers, 0 on, 8 at most", () -> {
            ThrownRosesReturn x = new ThrownRosesReturn();
            for (int w = 0; w < 8; w++) {
                int number = w;
                t.taken("window " + w, x, () -> x.window(number, 1, 0), w);
            }
            t.taken("the eighth", x, () -> x.windowOf(7, 0), 7);
            t.refused("a ninth", Stands::full, y -> y.window(0, 1, 0), Town.FULL);
            t.refused("number 8", Stands::full, y -> y.windowOf(8, 0), Town.BAD);
            t.refused("number -1", Stands::full, y -> y.windowOf(-1, 0), Town.BAD);
        });
        t.terms(10, "each a CELL, a FLOOR (1 to 5)", () -> {
            ThrownRosesReturn x = new ThrownRosesReturn();
            t.taken("cell 0, floor 1", x, () -> x.window(0, 1, 0), 0);
            t.taken("cell 11, floor 5", x, () -> x.window(11, 5, 0), 1);
            t.refused("cell -1", Stands::busy, y -> y.window(-1, 1, 0), Town.BAD);
            t.refused("cell 13 of 13", Stands::busy, y -> y.window(13, 1, 0), Town.BAD);
            t.refused("floor 0", Stands::busy, y -> y.window(0, 0, 0), Town.BAD);
            t.refused("floor 6", Stands::busy, y -> y.window(0, 6, 0), Town.BAD);
        });
        t.terms(10, "THORNS (0 to 9)", () -> {
            ThrownRosesReturn x = new ThrownRosesReturn();
            t.taken("0", x, () -> x.window(0, 1, 0), 0);
            t.taken("9", x, () -> x.window(0, 1, 9), 1);
            t.due("is 0", x.windowOf(0, 2), 0);
            t.due("is 9", x.windowOf(1, 2), 9);
            t.refused("-1", Stands::busy, y -> y.window(0, 1, -1), Town.BAD);
            t.refused("10", Stands::busy, y -> y.window(0, 1, 10), Town.BAD);
        });
    }

    private static void people(Sentences t) {
        t.terms(11, "PEOPLE have numbers, 0 on, 8 at most", () -> {
            ThrownRosesReturn x = new ThrownRosesReturn();
            for (int p = 0; p < 8; p++) {
                int number = p;
                t.taken("person " + p, x, () -> x.person(0, number, 0), p);
            }
            t.taken("the eighth", x, () -> x.personOf(7, 1), 7);
            t.refused("a ninth", Stands::full, y -> y.person(0, 0, 0), Town.FULL);
            t.refused("number 8", Stands::full, y -> y.personOf(8, 0), Town.BAD);
            t.refused("number -1", Stands::full, y -> y.personOf(-1, 0), Town.BAD);
        });
        t.terms(11, "a (0 to 9)", () -> {
            ThrownRosesReturn x = new ThrownRosesReturn();
            t.taken("0", x, () -> x.person(0, 0, 0), 0);
            t.taken("9", x, () -> x.person(0, 9, 0), 1);
            t.due("is 0", x.personOf(0, 1), 0);
            t.due("is 9", x.personOf(1, 1), 9);
            t.refused("-1", Stands::busy, y -> y.person(0, -1, 0), Town.BAD);
            t.refused("10", Stands::busy, y -> y.person(0, 10, 0), Town.BAD);
        });
        t.terms(11, "AT (a CELL)", () -> {
            ThrownRosesReturn x = new ThrownRosesReturn();
            t.taken("the first", x, () -> x.person(0, 0, 0), 0);
            t.taken("the last", x, () -> x.person(0, 0, 11), 1);
            t.due("at the first", x.personOf(0, 2), 0);
            t.due("at the last", x.personOf(1, 2), 11);
            t.refused("cell -1", Stands::busy, y -> y.person(0, 0, -1), Town.BAD);
            t.refused("cell 13 of 13", Stands::busy, y -> y.person(0, 0, 13), Town.BAD);
        });
    }

    private static void kinds(Sentences t) {
        t.terms(8, "each of a KIND: 0 CATCHER; 1 SHY, 2 BOLD, 5 HORSE, each under CATCHER; 3 TIMID, under SHY; "
                + "4 RAKE, under BOLD", () -> {
            boolean[][] isOf = {
                {true, false, false, false, false, false},
                {true, true, false, false, false, false},
                {true, false, true, false, false, false},
                {true, true, false, true, false, false},
                {true, false, true, false, true, false},
                {true, false, false, false, false, true},
            };
            ThrownRosesReturn x = new ThrownRosesReturn();
            for (int kind = 0; kind < 6; kind++) {
                int own = kind;
                t.taken("kind " + kind, x, () -> x.person(own, 0, 0), kind);
                x.show(0, kind);
                for (int taken = 0; taken < 6; taken++) {
                    boolean refused = x.says(0, taken) == Town.OTHER;
                    t.due("kind " + kind + " taken for " + taken, refused ? 0 : 1, isOf[kind][taken] ? 1 : 0);
                }
            }
            t.refused("kind -1", Stands::busy, y -> y.person(-1, 0, 0), Town.BAD);
            t.refused("kind 6", Stands::busy, y -> y.person(6, 0, 0), Town.BAD);
        });
    }

    private static void roses(Sentences t) {
        t.terms(17, "ROSE (of which WINDOW; none at first)", () -> {
            ThrownRosesReturn x = Town.built();
            t.taken("none at first", x, () -> x.personOf(4, 3), Town.NONE);
            x.thrown(1, 0, 0);
            t.due("of window 1", x.personOf(4, 3), 1);
            x.thrown(0, 0, 0);
            t.due("of window 0", x.personOf(0, 3), 0);
            x.days(1);
            t.taken("none any more", x, () -> x.personOf(4, 3), Town.NONE);
        });
        t.terms(17, "DUE (the DAY on which he comes with it; NONE: none, or never)", () -> {
            ThrownRosesReturn x = Town.built();
            t.taken("none at first", x, () -> x.personOf(0, 4), Town.NONE);
            x.thrown(1, 0, 0);
            t.due("day 0 is none too few", x.personOf(4, 4), 0);
            x.put(4, 11);
            x.thrown(0, 5, 2);
            t.due("the HORSE has it", x.personOf(5, 3), 0);
            t.taken("and never comes", x, () -> x.personOf(5, 4), Town.NONE);
        });
    }

    private static void refusals(Sentences t) {
        t.terms(60, "REFUSALS (the call answers the number; nothing changes but how many there were;", () -> {
            ThrownRosesReturn x = Stands.busy();
            long[] counts = {0, 0, 0, 0, 0};
            for (int round = 1; round <= 2; round++) {
                t.due("-2", x.put(0, 13), -2);
                t.due("-3", x.says(0, 0), -3);
                t.due("-4", x.says(3, 0), -4);
                t.due("-5", x.winds(1, 1), -5);
                for (int k = 0; k < 4; k++) {
                    counts[k]++;
                }
                for (int k = 0; k < 5; k++) {
                    t.due("how many of " + (-2 - k), x.status(12 + k), counts[k]);
                }
            }
            ThrownRosesReturn full = Stands.full();
            t.due("-6", full.person(0, 0, 0), -6);
            t.due("how many of -6", full.status(16), 1);
        });
        t.terms(40, "the first that fits as each line has them)", () -> {
            ThrownRosesReturn x = new ThrownRosesReturn();
            t.taken("no windows", x, () -> x.status(1), 0);
            t.refused("BAD stands ahead of STUCK", ThrownRosesReturn::new, y -> y.best(2), Town.BAD);
            t.refused("STUCK alone", ThrownRosesReturn::new, y -> y.best(1), Town.STUCK);
        });
        t.terms(19, "-2 BAD a number that may not be, nothing of that number.", () -> {
            t.refused("a force that may not be", Stands::busy, y -> y.lands(0, 10, 0), -2);
            t.refused("no window of that number", Stands::busy, y -> y.lands(3, 0, 0), -2);
            t.refused("the least int", Stands::busy, y -> y.lands(Integer.MIN_VALUE, 0, 0), -2);
            t.refused("the greatest int", Stands::busy, y -> y.lands(Integer.MAX_VALUE, 0, 0), -2);
        });
        t.terms(3, "-3 OTHER: a SHELF that holds another thing than is wanted.", () -> {
            t.refused("one of the people for a row", Stands::busy, y -> y.set(2, 0, 1), -3);
            t.refused("a row for one of the people", Stands::busy, y -> y.says(0, 0), -3);
            t.refused("an empty row, too", Stands::busy, y -> y.says(5, 0), -3);
        });
    }

    private static void wishes(Sentences t) {
        t.terms(3, "-4 NOTHING: a SHELF that holds NOTHING.", () -> {
            t.refused("for a row", Stands::busy, y -> y.set(3, 0, 1), -4);
            t.refused("for one of the people", Stands::busy, y -> y.says(3, 0), -4);
            t.refused("an empty row is not NOTHING", Stands::busy, y -> y.set(5, 0, 1), -2);
        });
        t.terms(59, "-5 STUCK: it can't be as things stand.", () -> {
            t.refused("no image", Town::built, ThrownRosesReturn::back, -5);
            ThrownRosesReturn x = Town.built();
            x.image();
            t.taken("but with one", x, x::back, 1);
        });
        t.terms(14, "-6 FULL.", () -> {
            t.refused("the tape", Stands::fullTape, y -> y.feed(' '), -6);
            t.refused("the windows", Stands::full, y -> y.window(0, 1, 0), -6);
            t.refused("the people", Stands::full, y -> y.person(0, 0, 0), -6);
        });
    }
}
