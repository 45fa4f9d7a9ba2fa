/** Promises 54 to 60: throws in truth, days, carnivals by draws, what is kept, and how all stands. */
public final class TruthTest {
    private static final Check CHECK = new Check("TruthTest");

    public static void main(String[] args) {
        promise54();
        promise54Due();
        promise54Refusals();
        promise55();
        promise55LastDay();
        promise56();
        promise56ByHand();
        promise56Refusals();
        promise57();
        promise58();
        promise59();
        promise59Shelves();
        promise59Again();
        promise60();
        promise60Refusals();
        CHECK.close();
    }

    private static void hasRose(ThrownRosesReturn x, int person, int rose, int due) {
        CHECK.due("rose of " + person, x.personOf(person, 3), rose);
        CHECK.due("due of " + person, x.personOf(person, 4), due);
    }

    private static void promise54() {
        ThrownRosesReturn x = Town.built();
        CHECK.due("54: thrown", x.thrown(0, 0, 0), 0);
        hasRose(x, 0, 0, 4);
        CHECK.due("54: he keeps it", x.thrown(0, 0, 0), 3);
        hasRose(x, 3, 0, 24);
        hasRose(x, 0, 0, 4);
        CHECK.unrefused("54: nobody", x, () -> x.thrown(0, 0, 0), Town.NONE);
        CHECK.unrefused("54: off the street", x, () -> x.thrown(0, 9, 1), Town.NONE);
        CHECK.due("54: two have one", x.status(7), 2);
        CHECK.due("54: of another window", x.thrown(2, 1, 2), 2);
        hasRose(x, 2, 2, 3);
        CHECK.due("54: the day stays", x.status(4), 0);
        CHECK.due("54: nobody said", x.status(6), 0);
    }

    private static void promise54Due() {
        ThrownRosesReturn x = Town.built();
        x.tell(1, 36);
        x.thrown(0, 0, 0);
        hasRose(x, 0, 0, 40);
        x.thrown(0, 0, 0);
        hasRose(x, 3, 0, Town.NONE);
        x.tell(2, 999);
        hasRose(x, 3, 0, Town.NONE);
        x.tell(2, 0);
        hasRose(x, 0, 0, 40);
        x.thrown(1, 0, 0);
        hasRose(x, 4, 1, Town.NONE);
        x.tell(2, 46);
        x.thrown(1, 0, 0);
        hasRose(x, 5, 1, 46);
        ThrownRosesReturn y = Town.built();
        y.put(4, 11);
        CHECK.due("54: a HORSE", y.thrown(0, 5, 2), 5);
        hasRose(y, 5, 0, Town.NONE);
    }

    private static void promise54Refusals() {
        ThrownRosesReturn x = Town.built();
        CHECK.refused("54: window -1", x, () -> x.thrown(-1, 0, 0), Town.BAD);
        CHECK.refused("54: window 3", x, () -> x.thrown(3, 0, 0), Town.BAD);
        CHECK.refused("54: force -1", x, () -> x.thrown(0, -1, 0), Town.BAD);
        CHECK.refused("54: force 10", x, () -> x.thrown(0, 10, 0), Town.BAD);
        CHECK.refused("54: way -1", x, () -> x.thrown(0, 0, -1), Town.BAD);
        CHECK.refused("54: way 3", x, () -> x.thrown(0, 0, 3), Town.BAD);
        CHECK.due("54: nobody has one", x.status(7), 0);
    }

    private static void promise55() {
        ThrownRosesReturn x = Town.built();
        CHECK.due("55: nobody", x.days(1), 0);
        CHECK.due("55: the day", x.status(4), 1);
        x.thrown(0, 0, 0);
        x.thrown(0, 0, 0);
        x.thrown(1, 0, 0);
        CHECK.due("55: RAKE, due today, brings it the day behind", x.days(1), 1);
        hasRose(x, 4, Town.NONE, Town.NONE);
        CHECK.due("55: not yet", x.days(2), 1);
        hasRose(x, 0, 0, 5);
        CHECK.due("55: on the day", x.days(1), 2);
        hasRose(x, 0, Town.NONE, Town.NONE);
        CHECK.due("55: who brought it catches again", x.caught(0, 0, 0), 0);
        CHECK.due("55: sixty", x.days(60), 3);
        CHECK.due("55: the day", x.status(4), 65);
        CHECK.due("55: nobody has one", x.status(7), 0);
        x.thrown(0, 0, 0);
        hasRose(x, 0, 0, Town.NONE);
        CHECK.due("55: who never comes", x.days(60), 3);
        hasRose(x, 0, 0, Town.NONE);
        CHECK.refused("55: n 0", x, () -> x.days(0), Town.BAD);
        CHECK.refused("55: n -1", x, () -> x.days(-1), Town.BAD);
        CHECK.refused("55: n 61", x, () -> x.days(61), Town.BAD);
        CHECK.due("55: the day", x.status(4), 125);
    }

    private static void promise55LastDay() {
        ThrownRosesReturn x = Town.built();
        x.tell(2, 999);
        x.tell(1, 998);
        x.thrown(1, 0, 0);
        CHECK.due("55: ahead of the last", x.days(1), 1);
        CHECK.due("55: the last day", x.status(4), 999);
        x.thrown(1, 0, 0);
        hasRose(x, 4, 1, 999);
        CHECK.due("55: on the last", x.days(1), 2);
        CHECK.due("55: it stays", x.status(4), 999);
        x.tell(1, 0);
        x.thrown(0, 0, 0);
        x.tell(1, 100);
        hasRose(x, 0, 0, 4);
        CHECK.due("55: telling brings nothing", x.status(6), 2);
        CHECK.due("55: a day ahead of DAY", x.days(1), 3);
        hasRose(x, 0, Town.NONE, Town.NONE);
    }

    /** The draws by their words, apart from how the class reckons them. */
    private static final class Draws {
        private long seed;

        Draws(long seed) {
            this.seed = seed;
        }

        int below(int n) {
            java.math.BigInteger next = java.math.BigInteger.valueOf(seed)
                    .multiply(java.math.BigInteger.valueOf(1103515245)).add(java.math.BigInteger.valueOf(12345));
            seed = next.intValue();
            return (int) (((seed & 0xFFFFFFFFL) / 65536) % n);
        }
    }

    private static void promise56() {
        for (int seed : new int[] {1, 0, -1, 77, Integer.MIN_VALUE, Integer.MAX_VALUE}) {
            ThrownRosesReturn drawn = Town.built();
            ThrownRosesReturn told = Town.built();
            Draws draws = new Draws(seed);
            CHECK.due("56: the seed ahead", drawn.seed(seed), 1);
            int caught = 0;
            for (int i = 0; i < 40; i++) {
                told.tell(0, draws.below(11));
                int window = draws.below(3);
                int force = draws.below(10);
                int way = draws.below(3);
                caught += told.thrown(window, force, way) == Town.NONE ? 0 : 1;
                told.days(1);
            }
            CHECK.due("56: caught by seed " + seed, drawn.drawn(40), caught);
            for (int what = 0; what < 9; what++) {
                CHECK.due("56: status(" + what + ") by seed " + seed, drawn.status(what), told.status(what));
            }
            CHECK.due("56: seed behind", drawn.status(9), draws.seed);
            for (int p = 0; p < 6; p++) {
                hasRose(drawn, p, told.personOf(p, 3), told.personOf(p, 4));
            }
        }
    }

    /** SEED 1 draws 16838, 5758, 10113, 17515 (modulo 32768 as is well known of these numbers) to begin with. */
    private static void promise56ByHand() {
        ThrownRosesReturn x = new ThrownRosesReturn();
        x.window(5, 3, 0);
        x.person(0, 0, 5);
        x.drawn(1);
        CHECK.due("56: the wind is the first draw", x.status(3), 16838 % 11);
        CHECK.due("56: a day has passed", x.status(4), 1);
        CHECK.due("56: four draws, though of one window", x.status(9), fourSteps());
        int before = x.status(4);
        x.drawn(3);
        CHECK.due("56: a day each", x.status(4), before + 3);
    }

    private static int fourSteps() {
        Draws draws = new Draws(1);
        for (int i = 0; i < 4; i++) {
            draws.below(7);
        }
        return (int) draws.seed;
    }

    private static void promise56Refusals() {
        ThrownRosesReturn x = new ThrownRosesReturn();
        CHECK.refused("56: n 0, ahead of STUCK", x, () -> x.drawn(0), Town.BAD);
        CHECK.refused("56: n 41, ahead of STUCK", x, () -> x.drawn(41), Town.BAD);
        CHECK.refused("56: n -1, ahead of STUCK", x, () -> x.drawn(-1), Town.BAD);
        CHECK.refused("56: no windows", x, () -> x.drawn(1), Town.STUCK);
        CHECK.due("56: no draw", x.status(9), 1);
        CHECK.due("56: no day", x.status(4), 0);
        x.window(0, 1, 0);
        CHECK.due("56: nobody there", x.drawn(40), 0);
        CHECK.due("56: forty days", x.status(4), 40);
    }

    private static void promise57() {
        ThrownRosesReturn x = new ThrownRosesReturn();
        CHECK.due("57: at first", x.seed(7), 1);
        CHECK.due("57: then", x.seed(Integer.MIN_VALUE), 7);
        CHECK.due("57: then", x.seed(-2), Integer.MIN_VALUE);
        CHECK.unrefused("57: NONE may be", x, () -> x.seed(-1), -2);
        CHECK.due("57: is", x.status(9), -1);
    }

    private static void promise58() {
        ThrownRosesReturn x = Town.built();
        CHECK.due("58: image", x.image(), 1);
        CHECK.due("58: image again", x.image(), 1);
        int[] due = {6, 3, 12, 5, 0, 40, 0, 0, 0, 1, 0, -1, 0, 0, 0, 0, 0};
        for (int what = 0; what < due.length; what++) {
            CHECK.due("58: status(" + what + ")", x.status(what), due[what]);
        }
        x.thrown(0, 0, 0);
        x.image();
        x.days(10);
        x.back();
        hasRose(x, 0, 0, 4);
        CHECK.due("58: the later one", x.status(4), 0);
    }

    private static void promise59() {
        ThrownRosesReturn x = Town.built();
        CHECK.refused("59: nothing was kept", x, x::back, Town.STUCK);
        x.thrown(0, 0, 0);
        x.tell(0, 6);
        x.tell(1, 2);
        x.tell(2, 50);
        x.seed(99);
        x.image();
        x.days(10);
        x.paves(20);
        x.window(19, 1, 0);
        x.person(0, 0, 19);
        x.tell(0, 1);
        x.tell(2, 60);
        x.put(0, 19);
        x.put(5, 11);
        x.drawn(40);
        Town.feed(x, "day 8");
        Town.lay(x, 0, 3, 1, 2);
        x.windowOf(9, 9);
        CHECK.due("59: back", x.back(), 1);
        int[] due = {6, 3, 12, 6, 2, 50, 0, 1, 5, 99, 1, -1, 1, 0, 0, 1, 0};
        for (int what = 0; what < due.length; what++) {
            CHECK.due("59: status(" + what + ")", x.status(what), due[what]);
        }
        hasRose(x, 0, 0, 4);
        CHECK.due("59: at", x.personOf(0, 2), 5);
        CHECK.due("59: at", x.personOf(5, 2), 0);
        CHECK.due("59: rows stay", x.element(0, 1), 2);
        CHECK.due("59: the tape stays", x.street(), 1);
        CHECK.due("59: cell 12 is none", x.lands(0, 7, 1), Town.NONE);
        CHECK.due("59: a new window has the number", x.window(3, 2, 1), 3);
        CHECK.due("59: a new one has the number", x.person(3, 2, 1), 6);
        hasRose(x, 6, Town.NONE, Town.NONE);
    }

    private static void promise59Shelves() {
        ThrownRosesReturn x = new ThrownRosesReturn();
        x.person(1, 3, 0);
        x.person(1, 4, 0);
        x.image();
        x.person(5, 5, 0);
        x.show(0, 0);
        x.show(1, 1);
        x.show(2, 2);
        x.row(3, 4, 7);
        x.show(7, 2);
        x.back();
        int[] due = {10, 11, -1, 4, -1, -1, -1, -1};
        for (int s = 0; s < 8; s++) {
            CHECK.due("59: holds(" + s + ")", x.holds(s), due[s]);
        }
        CHECK.due("59: three shelves", x.status(10), 3);
        CHECK.due("59: says", x.says(1, 1), 11);
        CHECK.refused("59: holds nothing", x, () -> x.says(2, 0), Town.NOTHING);
        x.person(2, 8, 0);
        CHECK.due("59: holds nothing still", x.holds(2), Town.NONE);
        x.show(2, 2);
        CHECK.due("59: says of the new one", x.says(2, 2), 4);
    }

    private static void promise59Again() {
        ThrownRosesReturn x = new ThrownRosesReturn();
        x.image();
        x.person(0, 0, 0);
        x.show(0, 0);
        x.window(0, 1, 0);
        CHECK.due("59: a rose", x.thrown(0, 0, 0), 0);
        x.back();
        CHECK.due("59: nobody", x.status(0), 0);
        CHECK.due("59: holds", x.holds(0), Town.NONE);
        x.person(0, 0, 0);
        hasRose(x, 0, Town.NONE, Town.NONE);
        x.tell(1, 9);
        x.window(0, 1, 0);
        CHECK.due("59: back again", x.back(), 1);
        CHECK.due("59: day", x.status(4), 0);
        CHECK.due("59: no windows", x.status(1), 0);
        x.paves(30);
        x.image();
        x.person(0, 0, 29);
        x.back();
        CHECK.due("59: to the later one", x.status(2), 30);
        CHECK.due("59: nobody", x.status(0), 0);
    }

    private static void promise60() {
        ThrownRosesReturn x = Town.built();
        x.paves(13);
        x.tell(0, 5);
        x.thrown(1, 0, 0);
        x.thrown(0, 0, 0);
        x.days(2);
        x.tell(0, 6);
        x.tell(2, 41);
        x.seed(-7);
        Town.feed(x, "abc");
        x.row(0, 0, 0);
        x.show(4, 1);
        int[] due = {6, 3, 13, 6, 2, 41, 1, 1, 3, -7, 2};
        for (int what = 0; what < due.length; what++) {
            CHECK.due("60: status(" + what + ")", x.status(what), due[what]);
        }
        for (int what : new int[] {-1, 11, 17, -12, Integer.MAX_VALUE, Integer.MIN_VALUE}) {
            CHECK.unrefused("60: status(" + what + ")", x, () -> x.status(what), Town.NONE);
        }
        x.show(4, -1);
        CHECK.due("60: one shelf", x.status(10), 1);
    }

    private static void promise60Refusals() {
        ThrownRosesReturn x = new ThrownRosesReturn();
        x.person(0, 0, 0);
        x.show(0, 0);
        x.row(-1, 0, 0);
        for (int i = 0; i < 2; i++) {
            x.set(0, 0, 0);
        }
        for (int i = 0; i < 3; i++) {
            x.set(1, 0, 0);
        }
        for (int i = 0; i < 4; i++) {
            x.best(0);
        }
        for (int i = 0; i < 13; i++) {
            x.person(0, 0, 0);
        }
        int[] due = {1, 2, 3, 4, 6};
        for (int k = 0; k < 5; k++) {
            CHECK.due("60: refusals " + (-2 - k), x.status(12 + k), due[k]);
        }
        x.street();
        CHECK.due("60: a fault is one", x.status(12), 2);
    }
}
