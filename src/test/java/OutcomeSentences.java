import java.util.function.ToLongFunction;

/** The words of '3. WHAT COMES OF IT', as far as nothing is changed: promises 23 to 53. */
final class OutcomeSentences {
    private OutcomeSentences() {
    }

    static void test(Sentences t) {
        nothingIsChanged(t);
        throwsFor(t);
        hitAndOpen(t);
        whose(t);
        stairs(t);
        fondAndPairs(t);
        firstPairs(t);
        winds(t);
        kinds(t);
        chance(t);
        safest(t);
        queues(t);
        crowded(t);
        moves(t);
        logs(t);
        behind(t);
    }

    private static void nothingIsChanged(Sentences t) {
        t.terms(23, "==== 3. WHAT COMES OF IT (nothing is changed)", () -> {
            for (int what = 0; what <= 3; what++) {
                int one = what;
                t.onlyTells("behind " + what, Stands::busy, x -> x.behind(0, 1, one));
            }
            for (int what = 0; what <= 2; what++) {
                int one = what;
                t.onlyTells("throwsFor " + what, Stands::busy, x -> x.throwsFor(4, 0, one));
                t.onlyTells("whose " + what, Stands::busy, x -> x.whose(4, 4, one));
                t.onlyTells("longest " + what, Stands::busy, x -> x.longest(one));
                t.onlyTells("having " + what, Stands::busy, x -> x.having(one));
                t.onlyTells("pairs " + what, Stands::busy, x -> x.pairs(one - 2));
            }
            for (int what = 0; what <= 1; what++) {
                int one = what;
                t.onlyTells("open " + what, Stands::busy, x -> x.open(0, one));
                t.onlyTells("move " + what, Stands::busy, x -> x.move(4, one));
                t.onlyTells("due " + what, Stands::busy, x -> x.due(one));
                t.onlyTells("best " + what, Stands::busy, x -> x.best(one));
                t.onlyTells("bed " + what, Stands::busy, x -> x.bed(one));
            }
            int number = 0;
            for (ToLongFunction<ThrownRosesReturn> call : ofOneAnswer()) {
                number++;
                t.onlyTells("call " + number + " of one answer", Stands::busy, call);
            }
        });
    }

    private static java.util.List<ToLongFunction<ThrownRosesReturn>> ofOneAnswer() {
        return java.util.List.of(x -> x.hit(0), x -> x.fond(0, 0), x -> x.winds(0, 1), x -> x.kinds(5, 0, 3),
                x -> x.chance(4, 0, 4, 2), x -> x.safest(4, 0), x -> x.queue(0, 4), x -> x.rival(3, 0, 0, 0),
                x -> x.lentFor(1, 0), x -> x.off(0), x -> x.windFor(4, 0, 4, 2), x -> x.catches(5),
                ThrownRosesReturn::gaps, x -> x.between(0, 1), x -> x.fondest(0), x -> x.admirer(4),
                x -> x.reached(5), x -> x.late(3), x -> x.ofKind(0), x -> x.judge(0, 3));
    }

    private static void throwsFor(Sentences t) {
        t.terms(23, "THROWS by which one CATCHES from a WINDOW, as all stand now: how many (of 30)", () -> {
            ThrownRosesReturn x = Stands.under(15, 1);
            x.person(4, 0, 15);
            t.taken("all of 30", x, () -> x.throwsFor(0, 0, 0), 30);
            x.put(0, 19);
            t.due("one way only", x.throwsFor(0, 0, 0), 7);
            x.put(0, 22);
            t.taken("none", x, () -> x.throwsFor(0, 0, 0), 0);
            x.put(0, 15);
            x.person(1, 0, 16);
            t.due("but for another's", x.throwsFor(0, 0, 0), 27);
            t.due("the other's", x.throwsFor(1, 0, 0), 3);
            x.thrown(0, 0, 0);
            t.due("as he has a rose", x.throwsFor(0, 0, 0), 0);
            x.tell(0, 6);
            t.due("as WIND is", x.throwsFor(1, 0, 0), 16);
        });
        t.terms(23, "the least FORCE; the WAY of it, of several the first; NONE. HIT", () -> {
            ThrownRosesReturn x = Stands.under(15, 1);
            x.person(4, 0, 15);
            forceAndWay(t, x, 0, 0);
            x.put(0, 19);
            forceAndWay(t, x, 3, 1);
            x.put(0, 11);
            forceAndWay(t, x, 3, 2);
            x.put(0, 21);
            forceAndWay(t, x, 9, 1);
            x.put(0, 22);
            forceAndWay(t, x, Town.NONE, Town.NONE);
            x.put(0, 14);
            x.person(1, 0, 15);
            forceAndWay(t, x, 3, 1);
        });
    }

    private static void forceAndWay(Sentences t, ThrownRosesReturn x, int force, int way) {
        t.taken("the force", x, () -> x.throwsFor(0, 0, 1), force);
        t.taken("the way", x, () -> x.throwsFor(0, 0, 2), way);
    }

    private static void hitAndOpen(Sentences t) {
        t.terms(24, ": PEOPLE (bits) who can be hit so from a WINDOW.", () -> {
            ThrownRosesReturn x = Stands.under(5, 3);
            t.taken("nobody there", x, () -> x.hit(0), 0);
            for (int p = 0; p < 8; p++) {
                x.person(1, 0, 16);
            }
            t.taken("nobody near", x, () -> x.hit(0), 0);
            x.put(7, 14);
            t.due("the eighth at the last cell that is open", x.hit(0), 128);
            x.put(7, 15);
            t.due("one further", x.hit(0), 0);
            for (int p = 0; p < 8; p++) {
                x.put(p, p);
            }
            t.due("all eight", x.hit(0), 255);
            x.thrown(0, 5, 2);
            t.due("but for one who has a rose", x.hit(0), 254);
            x.put(1, 2);
            x.put(0, 1);
            t.due("one stands behind another", x.hit(0), 250);
            int[] last = {4, 3, 5, 3, 6, 4};
            for (int kind = 0; kind < 6; kind++) {
                ThrownRosesReturn y = Stands.under(0, 1);
                y.person(kind, 0, last[kind]);
                t.due("kind " + kind + ", just near", y.hit(0), 1);
                y.put(0, last[kind] + 1);
                t.due("kind " + kind + ", just too far", y.hit(0), 0);
            }
        });
        t.terms(25, "OPEN: CELLS (bits) at which a ROSE of a WINDOW can LAND as WIND is", () -> {
            ThrownRosesReturn x = Stands.under(29, 3);
            x.window(0, 3, 0);
            t.due("to the last cell", x.open(0, 0), 0b1111111111 << 20);
            t.due("from the first cell", x.open(1, 0), 0b1111111111);
            x.tell(0, 0);
            t.due("as WIND is", x.open(1, 0), 0b11111);
            x.window(0, 1, 0);
            t.taken("none", x, () -> x.open(2, 0), 0);
            x.tell(0, 2);
            t.due("the first cell alone", x.open(2, 0), 1);
        });
        t.terms(25, "ASTRAY: as WIND may be any (0 to 10).", () -> {
            ThrownRosesReturn x = Stands.under(15, 1);
            t.due("8 cells both ways", x.open(0, 1), 0b11111111111111111 << 7);
            x.tell(0, 0);
            t.due("whatever WIND is", x.open(0, 1), 0b11111111111111111 << 7);
            x.window(29, 1, 0);
            x.window(0, 1, 0);
            t.due("to the last cell", x.open(1, 1), 0b111111111 << 21);
            t.due("from the first cell", x.open(2, 1), 0b111111111);
        });
    }

    private static void whose(Sentences t) {
        t.terms(26, "WHOSE: one who CAUGHT a ROSE with told THORNS where he is AT: WINDOWS (bits) of such THORNS", () -> {
            ThrownRosesReturn x = Stands.under(0, 1);
            x.window(0, 1, 9);
            x.window(0, 1, 1);
            x.person(1, 0, 0);
            t.due("thorns 0", x.whose(0, 0, 0), 1);
            t.due("thorns 9", x.whose(0, 9, 0), 2);
            t.taken("thorns 8", x, () -> x.whose(0, 8, 0), 0);
            for (int w = 3; w < 8; w++) {
                x.window(0, 1, 0);
            }
            t.due("to the eighth", x.whose(0, 0, 0), 0b11111001);
        });
        t.terms(26, "from which, by some FORCE and WAY, a ROSE LANDS so near that he REACHES it, WIND as it is.", () -> {
            int[] last = {4, 3, 5, 3, 6, 4};
            for (int kind = 0; kind < 6; kind++) {
                ThrownRosesReturn x = Stands.under(0, 1);
                x.person(kind, 0, last[kind]);
                t.due("kind " + kind + ", just", x.whose(0, 0, 0), 1);
                x.put(0, last[kind] + 1);
                t.due("kind " + kind + ", one further", x.whose(0, 0, 0), 0);
                x.tell(0, 6);
                t.due("kind " + kind + ", as WIND is", x.whose(0, 0, 0), 1);
                x.person(1, 0, last[kind] + 1);
                x.thrown(0, 9, 1);
                t.due("kind " + kind + ", whoever has a rose or is nearer", x.whose(0, 0, 0), 1);
            }
        });
    }

    private static void stairs(Sentences t) {
        t.terms(26, "STAIRS: all FLOORS of these together", () -> {
            ThrownRosesReturn x = new ThrownRosesReturn();
            x.person(1, 0, 5);
            t.taken("of none", x, () -> x.whose(0, 0, 1), 0);
            for (int w = 0; w < 8; w++) {
                x.window(5, 5, 0);
                t.due("of " + (w + 1), x.whose(0, 0, 1), 5 * (w + 1));
            }
            t.due("of other thorns", x.whose(0, 1, 1), 0);
        });
        t.terms(26, "TRY: the one of least FLOOR, of several the first; NONE.", () -> {
            ThrownRosesReturn x = new ThrownRosesReturn();
            x.person(1, 0, 5);
            t.taken("of none", x, () -> x.whose(0, 0, 2), Town.NONE);
            x.window(5, 1, 9);
            t.taken("of other thorns", x, () -> x.whose(0, 0, 2), Town.NONE);
            x.window(5, 5, 0);
            t.due("of one", x.whose(0, 0, 2), 1);
            x.window(5, 5, 0);
            t.due("of two alike", x.whose(0, 0, 2), 1);
            x.window(5, 4, 0);
            t.due("the least", x.whose(0, 0, 2), 3);
            x.window(5, 4, 0);
            t.due("of two least", x.whose(0, 0, 2), 3);
            x.window(5, 1, 0);
            t.due("the last", x.whose(0, 0, 2), 5);
        });
    }

    private static void fondAndPairs(Sentences t) {
        t.terms(27, "FOND: 10 less how far THORNS of a WINDOW and a of one are apart.", () -> {
            ThrownRosesReturn x = new ThrownRosesReturn();
            x.window(0, 1, 0);
            x.window(0, 1, 9);
            x.window(0, 1, 4);
            x.person(0, 0, 0);
            x.person(0, 9, 0);
            x.person(0, 5, 0);
            int[][] due = {{10, 1, 5}, {1, 10, 6}, {6, 5, 9}};
            for (int w = 0; w < 3; w++) {
                for (int p = 0; p < 3; p++) {
                    t.due("of " + w + " and " + p, x.fond(w, p), due[w][p]);
                }
            }
        });
        t.terms(28, "PAIRS: each WINDOW has one of PEOPLE, or nobody, no two the same one", () -> {
            ThrownRosesReturn x = new ThrownRosesReturn();
            x.window(5, 1, 0);
            t.taken("nobody there", x, () -> x.pairs(0), Town.NONE);
            x.person(1, 0, 5);
            t.taken("one", x, () -> x.pairs(0), 0);
            x.window(5, 1, 0);
            t.taken("not he again", x, () -> x.pairs(0), Town.NONE);
            t.taken("as another has him", x, () -> x.pairs(1), 0);
            x.person(1, 0, 6);
            t.due("each one", x.pairs(0), 0);
            t.due("each another", x.pairs(1), 1);
        });
        t.terms(28, "whom it can hit, as all stand now (as if nobody had a ROSE)", () -> {
            ThrownRosesReturn x = Stands.under(5, 1);
            x.person(1, 5, 8);
            t.due("at the last cell that is open", x.pairs(0), 0);
            t.due("who has a rose", x.thrown(0, 9, 1), 0);
            t.due("as if he hadn't", x.pairs(0), 0);
            x.person(1, 0, 8);
            t.due("who can be hit while another has a rose", x.hit(0), 2);
            t.due("can't be as if he hadn't", x.pairs(0), 0);
            x.put(0, 9);
            t.due("one further", x.pairs(0), 1);
            x.put(1, 9);
            t.taken("nobody", x, () -> x.pairs(0), Town.NONE);
            x.tell(0, 6);
            t.due("as WIND is", x.pairs(0), 0);
        });
        t.terms(28, "the greatest FOND together", () -> {
            ThrownRosesReturn x = new ThrownRosesReturn();
            t.taken("of none", x, () -> x.pairs(-1), 0);
            x.window(5, 3, 0);
            t.taken("of nobody", x, () -> x.pairs(-1), 0);
            x.person(1, 9, 4);
            t.due("the least there is", x.pairs(-1), 1);
            x.person(1, 2, 9);
            t.due("of one the fonder", x.pairs(-1), 8);
            x.window(11, 1, 2);
            t.due("not the fondest alone", x.pairs(-1), 11);
            ThrownRosesReturn y = new ThrownRosesReturn();
            for (int i = 0; i < 8; i++) {
                y.window(5, 3, i);
                y.person(1, i, i);
            }
            t.due("of eight", y.pairs(-1), 80);
            ThrownRosesReturn z = new ThrownRosesReturn();
            z.window(5, 3, 0);
            z.person(1, 9, 4);
            z.person(1, 1, 5);
            z.person(1, 0, 6);
            t.due("the fondest for one window", z.pairs(0), 2);
            z.window(5, 3, 0);
            t.due("10 and 9", z.pairs(-1), 19);
            t.due("the 9 first", z.pairs(0), 1);
            t.due("then the 10", z.pairs(1), 2);
        });
    }

    private static void firstPairs(Sentences t) {
        t.terms(28, "whom a WINDOW has, of several the first by rows (NONE ahead of all)", () -> {
            ThrownRosesReturn x = new ThrownRosesReturn();
            x.window(5, 3, 0);
            x.window(5, 3, 0);
            x.window(5, 3, 0);
            x.person(1, 0, 5);
            t.taken("NONE ahead of all", x, () -> x.pairs(0), Town.NONE);
            t.taken("and again", x, () -> x.pairs(1), Town.NONE);
            t.due("he is for the last", x.pairs(2), 0);
            x.person(1, 0, 6);
            t.due("NONE still", x.pairs(0), Town.NONE);
            t.due("the first", x.pairs(1), 0);
            t.due("the second", x.pairs(2), 1);
            x.person(1, 0, 7);
            for (int w = 0; w < 3; w++) {
                t.due("by rows", x.pairs(w), w);
            }
            x.person(1, 0, 8);
            t.due("the fourth is left over", x.pairs(2), 2);
        });
        t.terms(28, "how many have somebody", () -> {
            ThrownRosesReturn x = new ThrownRosesReturn();
            t.taken("no windows", x, () -> x.pairs(-2), 0);
            for (int i = 0; i < 8; i++) {
                x.window(5, 3, 0);
            }
            t.taken("nobody", x, () -> x.pairs(-2), 0);
            for (int i = 0; i < 8; i++) {
                x.person(1, 9, i);
                t.due("have somebody", x.pairs(-2), i + 1);
            }
        });
    }

    private static void winds(Sentences t) {
        t.terms(29, "By a told ROW of twos (a THROW: 100 times the WINDOW, 10 times FORCE and WAY; where it LANDED, "
                + "NONE off the street): WINDS (bits 0 to 10) that fit.", () -> {
            ThrownRosesReturn x = new ThrownRosesReturn();
            x.paves(30);
            for (int w = 0; w < 8; w++) {
                x.window(w + 6, 3, 0);
            }
            t.windsOf(x, 2047);
            t.windsOf(x, 1, 0, 1);
            t.windsOf(x, 1 << 10, 0, 11);
            t.windsOf(x, 0, 0, 12);
            t.windsOf(x, 0, 0, 0);
            t.windsOf(x, 1 << 5, 791, 22);
            t.windsOf(x, 1 << 5, 792, 4);
            t.windsOf(x, 1 << 5, 91, 15);
            t.windsOf(x, 1, 92, -1, 0, 1);
            t.windsOf(x, 0b11111111, 92, -1);
            t.windsOf(x, 0, 700, -1);
            t.windsOf(x, 0, 0, 30);
            t.windsOf(x, 0, 0, -2);
            t.windsOf(x, 0, 0, (1L << 32) + 6);
            t.windsOf(x, 0, 0, 6, 0, 7);
            t.windsOf(x, 1 << 6, 0, 7, 100, 8);
        });
    }

    private static void kinds(Sentences t) {
        t.terms(30, "By a told ROW of twos (a WINDOW, SLOW): KINDS (bits) of one that fit.", () -> {
            ThrownRosesReturn x = new ThrownRosesReturn();
            for (int w = 0; w < 8; w++) {
                x.window(0, 1 + w % 5, 0);
            }
            x.person(5, 0, 0);
            x.person(0, 9, 0);
            t.kindsOf(x, 0, 63);
            t.kindsOf(x, 0, 0b010101, 0, 0);
            t.kindsOf(x, 0, 0b000010, 0, 3);
            t.kindsOf(x, 0, 0b001000, 0, 4);
            t.kindsOf(x, 0, 0b001000, 7, 6, 4, 8);
            t.kindsOf(x, 0, 0b100000, 0, 10);
            t.kindsOf(x, 0, 0, 0, 5);
            t.kindsOf(x, 0, 0, 0, 3, 1, 4);
            t.kindsOf(x, 0, 0, 0, -1);
            t.kindsOf(x, 0, 0, 0, 1L << 32);
            t.kindsOf(x, 1, 0b000001, 0, 9);
            t.kindsOf(x, 1, 0b000100, 0, 4);
            t.kindsOf(x, 1, 0b000010, 0, 21, 4, 21);
            t.kindsOf(x, 1, 0b001000, 0, 22, 4, 26);
            t.kindsOf(x, 1, 0b100000, 0, 19);
        });
    }

    private static void chance(Sentences t) {
        t.terms(31, "CHANCE: WIND being 0 to 10, each alike: of 1,000,000 (cut), how likely one CATCHES a THROW.", () -> {
            int[] due = {272727, 90909, 454545, 90909, 636363, 272727};
            for (int kind = 0; kind < 6; kind++) {
                ThrownRosesReturn x = Stands.under(15, 3);
                x.person(kind, 0, 15);
                t.taken("kind " + kind, x, () -> x.chance(0, 0, 0, 0), due[kind]);
                x.tell(0, 0);
                t.due("kind " + kind + ", whatever WIND is", x.chance(0, 0, 0, 0), due[kind]);
            }
            ThrownRosesReturn x = Stands.under(15, 3);
            x.person(1, 0, 10);
            t.due("by wind 0", x.chance(0, 0, 0, 0), 90909);
            x.put(0, 20);
            t.due("by wind 10", x.chance(0, 0, 0, 0), 90909);
            x.put(0, 21);
            t.taken("by none", x, () -> x.chance(0, 0, 0, 0), 0);
            x.put(0, 15);
            x.thrown(0, 0, 0);
            t.taken("with a rose", x, () -> x.chance(0, 0, 0, 0), 0);
            ThrownRosesReturn y = Stands.under(0, 3);
            y.person(4, 0, 0);
            t.due("but for off the street", y.chance(0, 0, 0, 0), 363636);
        });
    }

    private static void safest(Sentences t) {
        t.terms(32, "SAFEST: the THROW of a WINDOW for one by which that is greatest (as 10 times FORCE and WAY), "
                + "of several the least", () -> {
            ThrownRosesReturn x = Stands.under(5, 3);
            x.person(4, 0, 5);
            t.taken("the very first", x, () -> x.safest(0, 0), 0);
            x.put(0, 9);
            t.due("2 up to be sure", x.safest(0, 0), 21);
            x.put(0, 10);
            t.due("3 up", x.safest(0, 0), 31);
            x.put(0, 1);
            t.due("no further than the street", x.safest(0, 0), 0);
            x.put(0, 22);
            t.due("as far as can be", x.safest(0, 0), 91);
            ThrownRosesReturn y = Stands.under(20, 3);
            y.person(4, 0, 16);
            t.due("2 down", y.safest(0, 0), 22);
        });
        t.terms(32, "NONE: by none at all.", () -> {
            ThrownRosesReturn x = Stands.under(5, 3);
            x.person(1, 0, 19);
            t.due("by one wind", x.safest(0, 0), 91);
            x.put(0, 20);
            t.taken("by none", x, () -> x.safest(0, 0), Town.NONE);
            x.put(0, 5);
            x.thrown(0, 0, 0);
            t.taken("with a rose", x, () -> x.safest(0, 0), Town.NONE);
        });
    }

    /** Eight SHY ones of an a of 0 beneath two windows: each throw is caught, and due 3 days on. */
    private static ThrownRosesReturn crowd() {
        ThrownRosesReturn x = new ThrownRosesReturn();
        x.window(5, 1, 0);
        x.window(5, 1, 0);
        for (int p = 0; p < 8; p++) {
            x.person(1, 0, 5);
        }
        return x;
    }

    private static void queues(Sentences t) {
        t.terms(33, "QUEUE: how many have a ROSE of a WINDOW and are DUE on a told DAY", () -> {
            ThrownRosesReturn x = crowd();
            t.taken("none", x, () -> x.queue(0, 3), 0);
            for (int p = 0; p < 8; p++) {
                x.thrown(0, 0, 0);
                t.due("have one", x.queue(0, 3), p + 1);
            }
            t.due("of another window", x.queue(1, 3), 0);
            t.due("a day ahead", x.queue(0, 2), 0);
            t.due("a day behind", x.queue(0, 4), 0);
            ThrownRosesReturn y = crowd();
            y.tell(2, 0);
            y.thrown(0, 0, 0);
            t.due("who never comes is in none", y.queue(0, 3), 0);
            ThrownRosesReturn z = crowd();
            z.tell(2, 999);
            z.tell(1, 996);
            z.thrown(1, 0, 0);
            t.taken("on the last day", z, () -> z.queue(1, 999), 1);
        });
        t.terms(34, "LONGEST: the greatest QUEUE", () -> {
            ThrownRosesReturn x = crowd();
            t.taken("none", x, () -> x.longest(0), 0);
            x.thrown(1, 0, 0);
            t.due("of one", x.longest(0), 1);
            x.thrown(0, 0, 0);
            t.due("two windows are two queues", x.longest(0), 1);
            x.thrown(0, 0, 0);
            t.due("of two", x.longest(0), 2);
            x.tell(1, 1);
            x.thrown(0, 0, 0);
            t.due("another day is another queue", x.longest(0), 2);
        });
    }

    private static void crowded(Sentences t) {
        t.terms(34, "CROWDED: the DAY of it, of several the first by WINDOWS, then DAYS; NONE.", () -> {
            ThrownRosesReturn x = crowd();
            crowdedIs(t, x, Town.NONE, Town.NONE);
            x.tell(1, 5);
            x.thrown(1, 0, 0);
            crowdedIs(t, x, 8, 1);
            x.tell(1, 4);
            x.thrown(1, 0, 0);
            crowdedIs(t, x, 7, 1);
            x.tell(1, 9);
            x.thrown(0, 0, 0);
            crowdedIs(t, x, 12, 0);
            x.tell(1, 8);
            x.thrown(0, 0, 0);
            crowdedIs(t, x, 11, 0);
            x.tell(1, 5);
            x.thrown(1, 0, 0);
            crowdedIs(t, x, 8, 1);
            ThrownRosesReturn y = crowd();
            y.tell(2, 0);
            y.thrown(0, 0, 0);
            crowdedIs(t, y, Town.NONE, Town.NONE);
        });
    }

    private static void crowdedIs(Sentences t, ThrownRosesReturn x, int day, int window) {
        t.taken("the day", x, () -> x.longest(1), day);
        t.taken("the window", x, () -> x.longest(2), window);
    }

    private static void moves(Sentences t) {
        t.terms(35, "MOVE for one: the CELL AT which from most WINDOWS he can be hit, as all others stand, "
                + "of several the first; how many.", () -> {
            ThrownRosesReturn x = new ThrownRosesReturn();
            x.person(1, 0, 7);
            moveIs(t, x, 0, 0);
            x.window(11, 1, 0);
            moveIs(t, x, 8, 1);
            for (int kind = 0; kind < 6; kind++) {
                ThrownRosesReturn y = new ThrownRosesReturn();
                y.window(3, 1, 0);
                y.person(kind, 0, 7);
                moveIs(t, y, 0, 1);
                y.tell(0, 10);
                moveIs(t, y, new int[] {4, 5, 3, 5, 2, 4}[kind], 1);
            }
            x.window(9, 1, 0);
            moveIs(t, x, 8, 2);
            x.person(1, 0, 8);
            moveIs(t, x, 8, 2);
            x.put(0, 9);
            t.due("beside the one who is the first", x.move(1, 0), 8);
            x.put(0, 8);
            t.due("behind the one who stands there", x.move(1, 0), 9);
            x.thrown(0, 9, 2);
            t.due("whoever has a rose isn't in the way", x.move(1, 0), 8);
            moveIs(t, x, 0, 0);
            t.due("he is where he was", x.personOf(0, 2), 8);
        });
        t.terms(36, "RIVAL: who CATCHES a THROW, if one weren't there; NONE.", () -> {
            ThrownRosesReturn x = Town.built();
            t.due("the next beneath", x.rival(0, 0, 0, 0), 3);
            t.due("without another", x.rival(3, 0, 0, 0), 0);
            t.due("for a HORSE", x.rival(4, 1, 0, 0), 5);
            t.taken("one further off", x, () -> x.rival(0, 0, 1, 1), 2);
            t.taken("NONE", x, () -> x.rival(2, 2, 1, 2), Town.NONE);
            t.taken("off the street", x, () -> x.rival(0, 0, 9, 1), Town.NONE);
            x.thrown(0, 0, 0);
            x.thrown(0, 0, 0);
            t.taken("all others have roses", x, () -> x.rival(4, 0, 0, 0), Town.NONE);
        });
    }

    private static void moveIs(Sentences t, ThrownRosesReturn x, int cell, int windows) {
        t.taken("the cell", x, () -> x.move(0, 0), cell);
        t.taken("how many", x, () -> x.move(0, 1), windows);
    }

    private static void logs(Sentences t) {
        t.terms(52, "A told LOG: a ROW of THROWS (as above)", () -> {
            ThrownRosesReturn x = Stands.full();
            Town.lay(x, 0, 3, 0, 2, 90, 92, 700, 792);
            t.taken("the first and the last there are", x, () -> x.judge(0, 6), Town.NONE);
            for (long bad : new long[] {-1, 3, 9, 93, 99, 793, 799, 800, 1000, 1L << 32, (1L << 32) + 1, Long.MAX_VALUE,
                Long.MIN_VALUE}) {
                Town.lay(x, 1, 3, bad);
                t.taken("a throw " + bad, x, () -> x.judge(1, 1), 0);
            }
        });
        t.terms(52, "WRONG: the first that can't be; NONE. BEHIND", () -> {
            ThrownRosesReturn x = Town.built();
            x.row(0, 3, 40);
            t.taken("none told", x, () -> x.judge(0, 0), Town.NONE);
            t.taken("forty that can be", x, () -> x.judge(0, 40), Town.NONE);
            x.set(0, 39, 300);
            t.taken("the last", x, () -> x.judge(0, 40), 39);
            t.taken("not so far", x, () -> x.judge(0, 39), Town.NONE);
            x.set(0, 7, 3);
            t.taken("the first", x, () -> x.judge(0, 40), 7);
            x.set(0, 0, -1);
            t.taken("the very first", x, () -> x.judge(0, 40), 0);
            ThrownRosesReturn y = new ThrownRosesReturn();
            y.row(0, 3, 1);
            t.taken("no windows, so no throws", y, () -> y.judge(0, 1), 0);
        });
        t.terms(53, ", one behind the other, who CATCHES keeps it", () -> {
            ThrownRosesReturn y = Stands.full();
            for (int w = 0; w < 8; w++) {
                Town.lay(y, 0, 3, 100 * w);
                t.due("of window " + w, y.behind(0, 1, 0), 1 << (w == 5 ? 4 : w));
            }
            Town.lay(y, 0, 3, 771, 742, 792, 722);
            t.due("of window 7, 4 down, off, and 2 down", y.behind(0, 4, 0), 0b00011000);

            ThrownRosesReturn x = crowd();
            x.row(0, 3, 40);
            for (int n = 0; n <= 8; n++) {
                t.due("who has roses behind " + n, x.behind(0, n, 0), (1 << n) - 1);
            }
            t.due("all eight keep theirs", x.behind(0, 40, 0), 255);
            t.due("no day goes by", x.behind(0, 40, 1), 8);
        });
    }

    private static void behind(Sentences t) {
        t.terms(53, " it: who has ROSES (bits), how many were CAUGHT, how many LANDED and weren't, how many went off.", () -> {
            ThrownRosesReturn x = crowd();
            Town.lay(x, 0, 3, 0, 191, 92, 100, 0, 0);
            x.tell(0, 8);
            x.put(1, 8);
            x.put(2, 8);
            behindIs(t, x, 0, 0, 0, 0, 0);
            behindIs(t, x, 1, 2, 1, 0, 0);
            behindIs(t, x, 2, 2, 1, 1, 0);
            behindIs(t, x, 3, 3, 2, 1, 0);
            behindIs(t, x, 4, 7, 3, 1, 0);
            behindIs(t, x, 6, 7, 3, 3, 0);
            x.tell(0, 0);
            Town.lay(x, 0, 3, 0, 92, 91, 102);
            behindIs(t, x, 1, 0, 0, 1, 0);
            behindIs(t, x, 2, 0, 0, 1, 1);
            behindIs(t, x, 3, 0, 0, 2, 1);
            behindIs(t, x, 4, 0, 0, 3, 1);
        });
    }

    private static void behindIs(Sentences t, ThrownRosesReturn x, int n, int... due) {
        for (int what = 0; what < 4; what++) {
            int one = what;
            t.taken("what " + what + " behind " + n, x, () -> x.behind(0, n, one), due[what]);
        }
    }
}
