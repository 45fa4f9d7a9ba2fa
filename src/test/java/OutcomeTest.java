/** Promises 23 to 53: what comes of it. */
public final class OutcomeTest {
    private static final Check CHECK = new Check("OutcomeTest");

    public static void main(String[] args) {
        promise23();
        promise24();
        promise25();
        promise26();
        promise27();
        promise28();
        promise28Ties();
        promise28Alike();
        promise28Back();
        promise28Eight();
        promise29();
        promise29Codes();
        promise29Refusals();
        promise30();
        promise30Refusals();
        promise31();
        promise32();
        promise33();
        promise34();
        promise34Ties();
        promise35();
        promise35Roses();
        promise36();
        promise37();
        promise38();
        promise39();
        promise40();
        promise41();
        promise42();
        promise43();
        promise44();
        promise45();
        promise46();
        promise47();
        promise48();
        promise49();
        promise50();
        promise51();
        promise52();
        promise52Codes();
        promise52Refusals();
        promise53();
        promise53Refusals();
        CHECK.close();
    }

    /** The refusals of a call that takes a person and a window, in this order. */
    private interface OfTwo {
        int answer(int person, int window);
    }

    private static void refusesCouples(String what, ThrownRosesReturn x, OfTwo call) {
        CHECK.refused(what + " person -1", x, () -> call.answer(-1, 0), Town.BAD);
        CHECK.refused(what + " person 6", x, () -> call.answer(6, 0), Town.BAD);
        CHECK.refused(what + " window -1", x, () -> call.answer(0, -1), Town.BAD);
        CHECK.refused(what + " window 3", x, () -> call.answer(0, 3), Town.BAD);
    }

    private interface OfFour {
        int answer(int person, int window, int force, int way);
    }

    private static void refusesThrows(String what, ThrownRosesReturn x, OfFour call) {
        refusesCouples(what, x, (person, window) -> call.answer(person, window, 0, 0));
        CHECK.refused(what + " force -1", x, () -> call.answer(0, 0, -1, 0), Town.BAD);
        CHECK.refused(what + " force 10", x, () -> call.answer(0, 0, 10, 0), Town.BAD);
        CHECK.refused(what + " way -1", x, () -> call.answer(0, 0, 0, -1), Town.BAD);
        CHECK.refused(what + " way 3", x, () -> call.answer(0, 0, 0, 3), Town.BAD);
    }

    private interface OfOne {
        int answer(int v);
    }

    private static void refuses(String what, ThrownRosesReturn x, OfOne call, int... bad) {
        for (int v : bad) {
            CHECK.refused(what + " " + v, x, () -> call.answer(v), Town.BAD);
        }
    }

    private static void promise23() {
        ThrownRosesReturn x = Town.built();
        int[][] due = {
            {0, 0, 14, 0, 0}, {2, 0, 4, 2, 1}, {4, 0, 3, 2, 2}, {1, 0, 1, 3, 2}, {3, 0, 0, -1, -1},
            {4, 1, 20, 0, 0}, {1, 1, 3, 6, 1}, {2, 2, 2, 1, 2}, {5, 1, 0, -1, -1},
        };
        for (int[] row : due) {
            for (int what = 0; what < 3; what++) {
                int wanted = what;
                CHECK.unrefused("23: " + row[0] + " from " + row[1] + ", what " + what, x,
                        () -> x.throwsFor(row[0], row[1], wanted), row[2 + what]);
            }
        }
        refusesCouples("23:", x, (person, window) -> x.throwsFor(person, window, 0));
        refuses("23: what", x, what -> x.throwsFor(0, 0, what), -1, 3);
        x.thrown(0, 0, 0);
        CHECK.due("23: none for one with a rose", x.throwsFor(0, 0, 0), 0);
        CHECK.due("23: but for him behind", x.throwsFor(3, 0, 0), 12);
        CHECK.due("23: and further ones", x.throwsFor(2, 0, 1), 1);
        x.tell(0, 10);
        x.put(1, 1);
        CHECK.due("23: the force 9", x.throwsFor(1, 0, 1), 9);
        CHECK.due("23: down", x.throwsFor(1, 0, 2), 2);
        x.put(1, 2);
        CHECK.due("23: the force 8", x.throwsFor(1, 0, 1), 8);
    }

    private static void promise24() {
        ThrownRosesReturn x = Town.built();
        CHECK.due("24: hit", x.hit(0), 23);
        CHECK.due("24: hit", x.hit(1), 18);
        CHECK.due("24: hit", x.hit(2), 21);
        x.thrown(0, 0, 0);
        CHECK.due("24: without him who has a rose", x.hit(0), 30);
        x.tell(0, 10);
        CHECK.due("24: by the wind", x.hit(1), 30);
        x.tell(0, 0);
        CHECK.due("24: off by the wind", x.hit(1), 0);
        refuses("24: window", x, x::hit, -1, 3);
    }

    private static void promise25() {
        ThrownRosesReturn x = Town.built();
        CHECK.due("25: open", x.open(0, 0), 4095);
        CHECK.due("25: open", x.open(1, 0), 15);
        CHECK.due("25: open", x.open(2, 0), 3435);
        CHECK.due("25: astray", x.open(0, 1), 4095);
        CHECK.due("25: astray", x.open(1, 1), 511);
        CHECK.due("25: astray", x.open(2, 1), 4095);
        x.tell(0, 10);
        CHECK.due("25: open by the wind", x.open(1, 0), 0b111111100);
        CHECK.due("25: astray by any", x.open(1, 1), 511);
        CHECK.due("25: the wind stays", x.status(3), 10);
        x.tell(0, 0);
        CHECK.due("25: not open at all", x.open(1, 0), 0);
        x.paves(30);
        x.window(29, 1, 0);
        CHECK.due("25: the last cell", x.open(3, 1), 0b111111111 << 21);
        refuses("25: window", x, window -> x.open(window, 0), -1, 4);
        refuses("25: what", x, what -> x.open(0, what), -1, 2);
    }

    private static void promise26() {
        ThrownRosesReturn x = Town.built();
        int[][] due = {{0, 4, 1, 3, 0}, {5, 4, 3, 4, 1}, {0, 9, 4, 5, 2}, {0, 8, 0, 0, -1}, {4, 4, 3, 4, 1}};
        for (int[] row : due) {
            for (int what = 0; what < 3; what++) {
                int wanted = what;
                CHECK.unrefused("26: " + row[0] + " by " + row[1] + ", what " + what, x,
                        () -> x.whose(row[0], row[1], wanted), row[2 + what]);
            }
        }
        x.window(4, 1, 4);
        CHECK.due("26: of one floor the first", x.whose(5, 4, 2), 1);
        CHECK.due("26: windows", x.whose(0, 4, 0), 9);
        CHECK.due("26: with a rose or not", x.thrown(0, 0, 0), 0);
        CHECK.due("26: windows", x.whose(0, 4, 0), 9);
        CHECK.due("26: stairs", x.whose(0, 4, 1), 4);
        x.tell(0, 9);
        CHECK.due("26: by the wind", x.whose(0, 4, 0), 11);
        x.tell(0, 5);
        x.put(1, 3);
        CHECK.due("26: the last cell that is open", x.whose(1, 4, 0), 11);
        x.put(1, 7);
        CHECK.due("26: the last of another", x.whose(1, 4, 0), 9);
        x.put(1, 8);
        CHECK.due("26: one further", x.whose(1, 4, 0), 1);
        x.tell(0, 2);
        x.put(1, 0);
        CHECK.due("26: cell 0 alone is open to 1", x.whose(1, 4, 0), 11);
        x.put(1, 1);
        CHECK.due("26: beside it", x.whose(1, 4, 0), 9);
        refuses("26: person", x, person -> x.whose(person, 4, 0), -1, 6);
        refuses("26: thorns", x, thorns -> x.whose(0, thorns, 0), -1, 10);
        refuses("26: what", x, what -> x.whose(0, 4, what), -1, 3);
    }

    private static void promise27() {
        ThrownRosesReturn x = Town.built();
        int[][] due = {{10, 8, 7, 5, 7, 6}, {10, 8, 7, 5, 7, 6}, {5, 3, 8, 10, 2, 1}};
        for (int w = 0; w < 3; w++) {
            for (int p = 0; p < 6; p++) {
                CHECK.due("27: fond(" + w + ", " + p + ")", x.fond(w, p), due[w][p]);
            }
        }
        refusesCouples("27:", x, (person, window) -> x.fond(window, person));
        CHECK.refused("27: window ahead", x, () -> x.fond(4, 0), Town.BAD);
    }

    private static void promise28() {
        ThrownRosesReturn x = Town.built();
        int[] due = {3, 26, 0, 1, 2};
        for (int window = -2; window < 3; window++) {
            CHECK.due("28: pairs(" + window + ")", x.pairs(window), due[window + 2]);
        }
        x.thrown(0, 0, 0);
        x.thrown(2, 2, 2);
        CHECK.due("28: as if nobody had a rose", x.pairs(-1), 26);
        CHECK.due("28: but roses stay", x.status(7), 2);
        refuses("28: window", x, x::pairs, -3, 3);
        x.tell(0, 0);
        CHECK.due("28: none from 1 by this wind", x.pairs(1), Town.NONE);
        CHECK.due("28: less by this wind", x.pairs(-1), 18);
        CHECK.due("28: two of three", x.pairs(-2), 2);
        ThrownRosesReturn y = new ThrownRosesReturn();
        CHECK.due("28: nobody", y.pairs(-1), 0);
        CHECK.due("28: nobody", y.pairs(-2), 0);
        y.window(0, 1, 0);
        CHECK.unrefused("28: nobody", y, () -> y.pairs(0), Town.NONE);
        CHECK.unrefused("28: nobody", y, () -> y.pairs(-1), 0);
    }

    private static void promise28Ties() {
        ThrownRosesReturn x = new ThrownRosesReturn();
        x.window(5, 1, 0);
        x.window(5, 1, 0);
        x.window(5, 1, 0);
        x.person(1, 3, 5);
        x.person(1, 3, 6);
        CHECK.due("28: together", x.pairs(-1), 14);
        CHECK.due("28: NONE ahead of all", x.pairs(0), Town.NONE);
        CHECK.due("28: the first", x.pairs(1), 0);
        CHECK.due("28: the second", x.pairs(2), 1);
        CHECK.due("28: two", x.pairs(-2), 2);
        ThrownRosesReturn y = new ThrownRosesReturn();
        for (int i = 0; i < 8; i++) {
            y.window(5, 5, i);
            y.person(4, i, 5);
        }
        CHECK.due("28: but the first of eight can't be hit", y.pairs(-2), 1);
        CHECK.due("28: together", y.pairs(-1), 10);
        CHECK.due("28: the first window has him", y.pairs(0), 0);
        CHECK.due("28: the others nobody", y.pairs(1), Town.NONE);
        y.image();
        y.tell(0, 10);
        y.put(1, 11);
        CHECK.due("28: together", y.pairs(-1), 20);
        y.back();
        CHECK.due("28: together as it was", y.pairs(-1), 10);
        ThrownRosesReturn z = new ThrownRosesReturn();
        z.window(3, 1, 0);
        z.window(8, 1, 0);
        z.person(1, 0, 6);
        z.person(1, 1, 3);
        CHECK.due("28: the greatest together", z.pairs(-1), 19);
        CHECK.due("28: not the fondest", z.pairs(0), 1);
        CHECK.due("28: whom it alone can hit", z.pairs(1), 0);
    }

    private static void promise28Alike() {
        ThrownRosesReturn x = new ThrownRosesReturn();
        x.window(5, 3, 0);
        x.person(1, 0, 1);
        x.person(1, 0, 2);
        x.person(1, 0, 3);
        x.image();
        x.window(5, 3, 0);
        x.window(5, 3, 0);
        CHECK.due("28: together", x.pairs(-1), 30);
        for (int w = 0; w < 3; w++) {
            CHECK.due("28: no two the same one", x.pairs(w), w);
        }
        x.back();
        CHECK.due("28: of fewer windows", x.pairs(-1), 10);
        CHECK.due("28: one", x.pairs(-2), 1);
    }

    /** What was reckoned for more people and windows must not stay behind. */
    private static void promise28Back() {
        ThrownRosesReturn x = new ThrownRosesReturn();
        x.window(5, 3, 0);
        x.window(5, 3, 0);
        x.person(1, 0, 1);
        x.image();
        x.person(1, 0, 2);
        CHECK.due("28: of two people", x.pairs(-1), 20);
        x.back();
        CHECK.due("28: of one", x.pairs(-1), 10);
        x.person(1, 0, 2);
        x.image();
        x.window(5, 3, 0);
        x.person(1, 0, 3);
        CHECK.due("28: of three", x.pairs(-1), 30);
        x.back();
        CHECK.due("28: of two again", x.pairs(-1), 20);
    }

    private static void promise28Eight() {
        ThrownRosesReturn x = new ThrownRosesReturn();
        for (int i = 0; i < 8; i++) {
            x.window(5, 3, 9 - i);
            x.person(1, i, i);
        }
        CHECK.due("28: as fond as 2 apart each", x.pairs(-1), 64);
        CHECK.due("28: all have somebody", x.pairs(-2), 8);
        int[] first = {0, 1, 7, 6, 5, 4, 3, 2};
        for (int w = 0; w < 8; w++) {
            CHECK.due("28: of many rows the first, window " + w, x.pairs(w), first[w]);
        }
        x.put(7, 10);
        CHECK.due("28: one can still be hit", x.pairs(-2), 8);
    }

    private static void promise29() {
        ThrownRosesReturn x = Town.built();
        Town.lay(x, 0, 2, 0, 7, 100, -1, 100, 3);
        CHECK.due("29: by none", x.winds(0, 0), 2047);
        CHECK.due("29: by one", x.winds(0, 1), 1 << 7);
        CHECK.due("29: by two", x.winds(0, 2), 0);
        Town.lay(x, 1, 3, 100, -1, 52, -1);
        CHECK.due("29: off the street", x.winds(1, 1), 31);
        CHECK.due("29: off the street, too", x.winds(1, 2), 31);
        Town.lay(x, 1, 0, 61, 11, 61, 11);
        CHECK.due("29: the last cell", x.winds(1, 2), 1 << 5);
        Town.lay(x, 1, 1, 0, 12);
        CHECK.due("29: no such cell", x.winds(1, 1), 0);
        Town.lay(x, 1, 1, 0, -2);
        CHECK.due("29: nor this", x.winds(1, 1), 0);
        Town.lay(x, 1, 3, 0, (1L << 32) + 5);
        CHECK.due("29: nor this, of longs", x.winds(1, 1), 0);
        Town.lay(x, 2, 4, 1, 1, 0, 0);
        CHECK.due("29: of booleans", x.winds(2, 1), 1 << 1);
        CHECK.due("29: of booleans", x.winds(2, 2), 0);
        x.row(3, 3, 40);
        for (int i = 0; i < 20; i++) {
            x.set(3, 2 * i, 200);
            x.set(3, 2 * i + 1, 8);
        }
        CHECK.due("29: twenty", x.winds(3, 20), 1 << 2);
        CHECK.due("29: the wind stays", x.status(3), 5);
    }

    /** Eight windows, the last in cell 6 on floor 3 of a street of 30: each throw by its code alone. */
    private static ThrownRosesReturn ofEight() {
        ThrownRosesReturn x = new ThrownRosesReturn();
        for (int w = 0; w < 8; w++) {
            x.window(w == 7 ? 6 : 1, w == 7 ? 3 : 1, 0);
        }
        x.paves(30);
        return x;
    }

    private static void promise29Codes() {
        ThrownRosesReturn x = ofEight();
        for (int force = 0; force < 10; force++) {
            Town.lay(x, 0, 3, 701 + 10 * force, 6 + force);
            CHECK.due("29: up by force " + force, x.winds(0, 1), 1 << 5);
            Town.lay(x, 0, 3, 702 + 10 * force, 6 - force + 5);
            CHECK.due("29: down by force " + force, x.winds(0, 1), 1 << 10);
            Town.lay(x, 0, 3, 700 + 10 * force, 1);
            CHECK.due("29: straight down", x.winds(0, 1), 1);
        }
        Town.lay(x, 0, 3, 800, 6);
        CHECK.refused("29: window 8", x, () -> x.winds(0, 1), Town.STUCK);
    }

    private static void promise29Refusals() {
        ThrownRosesReturn x = Town.built();
        Town.lay(x, 0, 3, 0, 5, 3, 5, 300, 5);
        x.show(1, 0);
        CHECK.refused("29: shelf -1", x, () -> x.winds(-1, 0), Town.BAD);
        CHECK.refused("29: shelf 8", x, () -> x.winds(8, 0), Town.BAD);
        CHECK.refused("29: n -1", x, () -> x.winds(1, -1), Town.BAD);
        CHECK.refused("29: n 21", x, () -> x.winds(2, 21), Town.BAD);
        CHECK.refused("29: one of the people", x, () -> x.winds(1, 20), Town.OTHER);
        CHECK.refused("29: nothing", x, () -> x.winds(2, 20), Town.NOTHING);
        CHECK.refused("29: fewer, ahead of STUCK", x, () -> x.winds(0, 4), Town.BAD);
        CHECK.refused("29: way 3", x, () -> x.winds(0, 2), Town.STUCK);
        x.set(0, 2, 0);
        CHECK.refused("29: window 3", x, () -> x.winds(0, 3), Town.STUCK);
        CHECK.due("29: but not so far", x.winds(0, 2), 1 << 5);
        x.set(0, 2, -1);
        CHECK.refused("29: no throw", x, () -> x.winds(0, 2), Town.STUCK);
        x.set(0, 2, 1L << 32);
        CHECK.refused("29: no throw of longs", x, () -> x.winds(0, 2), Town.STUCK);
        x.set(0, 1, 6);
        CHECK.refused("29: stuck though nothing fits", x, () -> x.winds(0, 2), Town.STUCK);
        x.row(0, 3, 3);
        CHECK.refused("29: 3 of 4 elements", x, () -> x.winds(0, 2), Town.BAD);
    }

    private static void promise30() {
        ThrownRosesReturn x = Town.built();
        Town.lay(x, 0, 2, 0, 14, 1, 14, 1, 4);
        CHECK.due("30: by none", x.kinds(0, 0, 0), 63);
        CHECK.due("30: TIMID and HORSE", x.kinds(0, 1, 0), 8 | 32);
        CHECK.due("30: HORSE", x.kinds(0, 2, 0), 32);
        CHECK.due("30: none", x.kinds(0, 3, 0), 0);
        int[][] due = {{4, 1}, {11, 2}, {2, 4}, {12, 8}, {0, 16}, {14, 32}, {5, 0}, {-1, 0}};
        for (int[] row : due) {
            Town.lay(x, 1, 3, 1, row[0]);
            CHECK.due("30: slow " + row[0], x.kinds(1, 1, 0), row[1]);
        }
        Town.lay(x, 1, 3, 2, 0);
        CHECK.due("30: of another, by his a", x.kinds(1, 1, 5), 1 | 4 | 16);
        Town.lay(x, 1, 3, 2, 8);
        CHECK.due("30: TIMID by FLOOR", x.kinds(1, 1, 5), 8);
        Town.lay(x, 1, 3, 2, (1L << 32) + 4);
        CHECK.due("30: none of longs", x.kinds(1, 1, 0), 0);
        Town.lay(x, 2, 4, 0, 0, 1, 1);
        CHECK.due("30: of booleans", x.kinds(2, 1, 4), 4 | 16);
        CHECK.due("30: of booleans", x.kinds(2, 2, 4), 0);
    }

    private static void promise30Refusals() {
        ThrownRosesReturn x = Town.built();
        Town.lay(x, 0, 3, 0, 5, 3, 5);
        x.show(1, 0);
        CHECK.refused("30: shelf -1", x, () -> x.kinds(-1, 0, 0), Town.BAD);
        CHECK.refused("30: shelf 8", x, () -> x.kinds(8, 0, 0), Town.BAD);
        CHECK.refused("30: n -1", x, () -> x.kinds(1, -1, 0), Town.BAD);
        CHECK.refused("30: n 21", x, () -> x.kinds(2, 21, 0), Town.BAD);
        CHECK.refused("30: person -1", x, () -> x.kinds(1, 0, -1), Town.BAD);
        CHECK.refused("30: person 6", x, () -> x.kinds(2, 0, 6), Town.BAD);
        CHECK.refused("30: one of the people", x, () -> x.kinds(1, 20, 0), Town.OTHER);
        CHECK.refused("30: nothing", x, () -> x.kinds(2, 20, 0), Town.NOTHING);
        CHECK.refused("30: fewer, ahead of STUCK", x, () -> x.kinds(0, 3, 0), Town.BAD);
        CHECK.refused("30: window 3", x, () -> x.kinds(0, 2, 0), Town.STUCK);
        CHECK.due("30: but not so far", x.kinds(0, 1, 0), 0);
        x.set(0, 2, -1);
        CHECK.refused("30: window -1", x, () -> x.kinds(0, 2, 0), Town.STUCK);
        x.set(0, 2, 1L << 32);
        CHECK.refused("30: no window of longs", x, () -> x.kinds(0, 2, 0), Town.STUCK);
        x.set(0, 2, 0);
        x.set(0, 0, 3);
        CHECK.refused("30: the very first", x, () -> x.kinds(0, 2, 0), Town.STUCK);
    }

    private static void promise31() {
        ThrownRosesReturn x = Town.built();
        CHECK.due("31: 3 of 11", x.chance(0, 0, 0, 0), 272727);
        CHECK.due("31: 4 of 11", x.chance(2, 0, 0, 0), 363636);
        CHECK.due("31: 1 of 11", x.chance(1, 0, 9, 0), 90909);
        CHECK.due("31: none", x.chance(3, 0, 0, 0), 0);
        CHECK.due("31: off and back", x.chance(4, 0, 9, 2), 181818);
        x.tell(0, 0);
        CHECK.due("31: whatever WIND is", x.chance(0, 0, 0, 0), 272727);
        CHECK.due("31: WIND stays", x.status(3), 0);
        x.tell(0, 5);
        x.thrown(0, 0, 0);
        CHECK.due("31: with a rose none", x.chance(0, 0, 0, 0), 0);
        CHECK.due("31: for him behind", x.chance(3, 0, 0, 0), 90909);
        ThrownRosesReturn y = new ThrownRosesReturn();
        y.paves(30);
        y.window(15, 1, 0);
        for (int at : new int[] {12, 18, 15}) {
            y.person(4, 0, at);
        }
        CHECK.due("31: of one among several", y.chance(2, 0, 0, 0), 272727);
        y.put(0, 29);
        y.put(1, 29);
        CHECK.due("31: 7 of 11", y.chance(2, 0, 0, 0), 636363);
        refusesThrows("31:", x, x::chance);
    }

    private static void promise32() {
        ThrownRosesReturn x = Town.built();
        CHECK.due("32: straight down", x.safest(2, 0), 0);
        CHECK.due("32: the least", x.safest(1, 2), 32);
        CHECK.due("32: all of 4 cells", x.safest(2, 2), 0);
        CHECK.unrefused("32: by none", x, () -> x.safest(3, 0), Town.NONE);
        x.tell(0, 0);
        CHECK.due("32: whatever WIND is", x.safest(2, 0), 0);
        CHECK.due("32: WIND stays", x.status(3), 0);
        refusesCouples("32:", x, x::safest);
        ThrownRosesReturn y = new ThrownRosesReturn();
        y.paves(30);
        y.window(20, 3, 0);
        y.person(4, 0, 12);
        CHECK.due("32: the first by which all 7 are", y.safest(0, 0), 62);
        y.put(0, 28);
        CHECK.due("32: up, the first by which all 5 are", y.safest(0, 0), 41);
        y.put(0, 17);
        CHECK.due("32: all by force 1", y.safest(0, 0), 12);
    }

    private static void promise33() {
        ThrownRosesReturn x = Town.built();
        x.person(0, 4, 5);
        x.thrown(0, 0, 0);
        CHECK.due("33: one", x.queue(0, 4), 1);
        x.thrown(0, 0, 0);
        x.thrown(0, 0, 0);
        CHECK.due("33: two", x.queue(0, 4), 2);
        CHECK.due("33: and one", x.queue(0, 24), 1);
        CHECK.due("33: none on another day", x.queue(0, 5), 0);
        CHECK.due("33: none from another window", x.queue(1, 4), 0);
        x.days(4);
        CHECK.due("33: not any more", x.queue(0, 4), 0);
        CHECK.due("33: he still", x.queue(0, 24), 1);
        CHECK.due("33: day 999", x.queue(0, 999), 0);
        CHECK.due("33: day 0", x.queue(0, 0), 0);
        refuses("33: window", x, window -> x.queue(window, 0), -1, 3);
        refuses("33: day", x, day -> x.queue(0, day), -1, 1000);
        CHECK.due("33: nobody on a day that may not be", x.queue(0, 1), 0);
    }

    private static void longestIs(ThrownRosesReturn x, String what, int length, int day, int window) {
        CHECK.unrefused("34: LONGEST, " + what, x, () -> x.longest(0), length);
        CHECK.unrefused("34: CROWDED, " + what, x, () -> x.longest(1), day);
        CHECK.unrefused("34: window, " + what, x, () -> x.longest(2), window);
    }

    private static void promise34() {
        ThrownRosesReturn x = Town.built();
        longestIs(x, "nobody", 0, Town.NONE, Town.NONE);
        x.put(5, 11);
        CHECK.due("34: a HORSE has it", x.thrown(2, 0, 0), 5);
        longestIs(x, "who never comes", 0, Town.NONE, Town.NONE);
        x.thrown(2, 3, 2);
        longestIs(x, "one", 1, 4, 2);
        CHECK.due("34: RAKE", x.thrown(1, 0, 0), 4);
        longestIs(x, "of several the first by windows", 1, 0, 1);
        x.thrown(0, 3, 1);
        longestIs(x, "again", 1, 3, 0);
        refuses("34: what", x, x::longest, -1, 3);
    }

    private static void promise34Ties() {
        ThrownRosesReturn x = new ThrownRosesReturn();
        x.window(5, 3, 0);
        x.window(5, 3, 0);
        for (int a : new int[] {9, 3, 9, 3, 1, 3}) {
            x.person(0, a, 5);
        }
        x.thrown(0, 0, 0);
        x.thrown(0, 0, 0);
        longestIs(x, "of one window the first day", 1, 3, 0);
        x.thrown(1, 0, 0);
        x.thrown(1, 0, 0);
        longestIs(x, "of both still one", 1, 3, 0);
        x.thrown(0, 0, 0);
        x.thrown(1, 0, 0);
        longestIs(x, "two though of the other", 2, 3, 1);
        x.days(3);
        longestIs(x, "what is left", 1, 9, 0);
    }

    private static void promise35() {
        ThrownRosesReturn x = Town.built();
        CHECK.due("35: the cell", x.move(1, 0), 0);
        CHECK.due("35: from all", x.move(1, 1), 3);
        CHECK.due("35: he stays", x.personOf(1, 2), 2);
        CHECK.due("35: a CATCHER", x.move(0, 0), 0);
        refuses("35: person", x, person -> x.move(person, 0), -1, 6);
        refuses("35: what", x, what -> x.move(0, what), -1, 2);
        ThrownRosesReturn y = new ThrownRosesReturn();
        y.person(0, 0, 8);
        y.person(1, 0, 0);
        CHECK.due("35: no windows", y.move(0, 0), 0);
        CHECK.due("35: from none", y.move(0, 1), 0);
        y.window(6, 1, 0);
        CHECK.due("35: of one window the first cell", y.move(1, 0), 3);
        CHECK.due("35: from one", y.move(1, 1), 1);
        y.window(11, 1, 0);
        CHECK.due("35: where he is ahead of the other", y.move(1, 0), 9);
        CHECK.due("35: from both", y.move(1, 1), 2);
        CHECK.due("35: the other needs but reach", y.move(0, 0), 7);
    }

    private static void promise35Roses() {
        ThrownRosesReturn x = new ThrownRosesReturn();
        x.window(6, 1, 0);
        x.window(11, 1, 0);
        x.person(0, 0, 8);
        x.person(1, 0, 0);
        x.thrown(0, 6, 1);
        CHECK.due("35: he has a rose", x.personOf(0, 3), 0);
        CHECK.due("35: but the other where he stands", x.move(1, 0), 8);
        CHECK.due("35: so he can't be hit", x.move(0, 1), 0);
        CHECK.due("35: anywhere", x.move(0, 0), 0);
    }

    private static void promise36() {
        ThrownRosesReturn x = Town.built();
        CHECK.due("36: him beside", x.rival(0, 0, 0, 0), 3);
        CHECK.due("36: a HORSE", x.rival(4, 0, 5, 2), 5);
        CHECK.due("36: whom it isn't up to", x.rival(5, 0, 5, 2), 4);
        CHECK.unrefused("36: nobody", x, () -> x.rival(2, 0, 5, 1), Town.NONE);
        CHECK.unrefused("36: off the street", x, () -> x.rival(2, 0, 9, 1), Town.NONE);
        x.thrown(0, 0, 0);
        CHECK.due("36: nobody with a rose", x.rival(3, 0, 0, 0), Town.NONE);
        CHECK.due("36: he catches himself", x.rival(0, 0, 0, 0), 3);
        refusesThrows("36:", x, x::rival);
    }

    /** Roses: 0 has one of window 0 for day 4, 3 one for day 24, 4 one of window 1 for day 0, 5 one for never. */
    private static ThrownRosesReturn withRoses() {
        ThrownRosesReturn x = Town.built();
        CHECK.due("roses", x.thrown(0, 0, 0), 0);
        CHECK.due("roses", x.thrown(0, 0, 0), 3);
        CHECK.due("roses", x.thrown(1, 0, 0), 4);
        CHECK.due("roses", x.thrown(0, 5, 2), 5);
        return x;
    }

    private static void promise37() {
        ThrownRosesReturn y = Town.built();
        for (int what = 0; what < 3; what++) {
            CHECK.due("37: nobody", y.having(what), 0);
        }
        ThrownRosesReturn x = withRoses();
        CHECK.due("37: who have one", x.having(0), 57);
        CHECK.due("37: who never come", x.having(1), 32);
        CHECK.due("37: who come first", x.having(2), 16);
        x.days(1);
        CHECK.due("37: who have one", x.having(0), 41);
        CHECK.due("37: who come first", x.having(2), 1);
        x.days(59);
        CHECK.due("37: who have one", x.having(0), 32);
        CHECK.due("37: nobody comes", x.having(2), 0);
        refuses("37: what", x, x::having, -1, 3);
        CHECK.due("37: thrown", y.thrown(0, 0, 0), 0);
        CHECK.due("37: thrown", y.thrown(0, 3, 1), 2);
        CHECK.due("37: the lesser day, not the lesser number", y.having(2), 4);
        y.tell(1, 3);
        CHECK.due("37: thrown", y.thrown(1, 0, 0), 4);
        CHECK.due("37: two on one day", y.having(2), 20);
        y.tell(1, 500);
        CHECK.due("37: whatever DAY is", y.having(2), 20);
    }

    private static void promise38() {
        ThrownRosesReturn x = Town.built();
        CHECK.unrefused("38: nobody", x, () -> x.due(0), Town.NONE);
        CHECK.unrefused("38: nobody", x, () -> x.due(1), Town.NONE);
        ThrownRosesReturn y = withRoses();
        CHECK.due("38: the first", y.due(0), 0);
        CHECK.due("38: the last", y.due(1), 24);
        y.days(1);
        CHECK.due("38: the first", y.due(0), 4);
        y.days(23);
        CHECK.due("38: none left but for never", y.due(0), Town.NONE);
        CHECK.due("38: none left but for never", y.due(1), Town.NONE);
        CHECK.due("38: who has it still", y.having(0), 32);
        refuses("38: what", x, x::due, -1, 2);
        x.thrown(0, 3, 1);
        x.thrown(0, 0, 0);
        CHECK.due("38: the last is of the first one", x.due(1), 4);
        CHECK.due("38: the first is of another", x.due(0), 3);
    }

    private static void promise39() {
        ThrownRosesReturn x = Town.built();
        int[] due = {4, 7, 3, 24, 0};
        for (int p = 0; p < 5; p++) {
            CHECK.due("39: of " + p, x.lentFor(p, 0), due[p]);
        }
        CHECK.due("39: a HORSE to floor 1", x.lentFor(5, 1), 10);
        CHECK.unrefused("39: a HORSE to floor 3", x, () -> x.lentFor(5, 0), Town.NONE);
        x.tell(2, 0);
        CHECK.due("39: whatever LENT is", x.lentFor(0, 0), 4);
        x.tell(1, 989);
        CHECK.due("39: the last", x.lentFor(5, 1), 999);
        x.tell(1, 990);
        CHECK.unrefused("39: behind the last", x, () -> x.lentFor(5, 1), Town.NONE);
        CHECK.due("39: by the day", x.lentFor(4, 0), 990);
        refusesCouples("39:", x, x::lentFor);
    }

    private static void promise40() {
        ThrownRosesReturn x = Town.built();
        CHECK.due("40: the window", x.best(0), 0);
        CHECK.due("40: by four", x.best(1), 4);
        x.tell(0, 10);
        CHECK.due("40: of two by four the first", x.best(0), 0);
        x.thrown(0, 9, 2);
        CHECK.due("40: he can't be hit", x.best(1), 4);
        x.tell(0, 0);
        CHECK.due("40: by this wind", x.best(1), 4);
        refuses("40: what", x, x::best, -1, 2);
        ThrownRosesReturn y = new ThrownRosesReturn();
        CHECK.refused("40: no windows", y, () -> y.best(0), Town.STUCK);
        CHECK.refused("40: no windows", y, () -> y.best(1), Town.STUCK);
        CHECK.refused("40: BAD ahead of STUCK", y, () -> y.best(2), Town.BAD);
        y.window(0, 1, 0);
        y.window(0, 1, 0);
        CHECK.due("40: of several the first", y.best(0), 0);
        CHECK.due("40: by nobody", y.best(1), 0);
        y.person(0, 0, 11);
        y.window(11, 1, 0);
        y.window(11, 1, 0);
        CHECK.due("40: of the two others the first", y.best(0), 2);
        CHECK.due("40: by one", y.best(1), 1);
    }

    private static void promise41() {
        ThrownRosesReturn x = Town.built();
        CHECK.due("41: the cell", x.bed(0), 0);
        CHECK.due("41: how many", x.bed(1), 18);
        x.tell(0, 4);
        CHECK.due("41: a cell down", x.bed(0), 4);
        CHECK.due("41: how many", x.bed(1), 13);
        ThrownRosesReturn y = new ThrownRosesReturn();
        CHECK.due("41: no windows", y.bed(0), 0);
        CHECK.due("41: none", y.bed(1), 0);
        y.window(8, 3, 0);
        y.window(3, 3, 0);
        CHECK.due("41: of several the first", y.bed(0), 3);
        CHECK.due("41: how many", y.bed(1), 13);
        y.window(8, 5, 0);
        CHECK.due("41: all together", y.bed(0), 8);
        CHECK.due("41: how many", y.bed(1), 25);
        refuses("41: what", x, x::bed, -1, 2);
        ThrownRosesReturn z = new ThrownRosesReturn();
        z.window(4, 1, 0);
        CHECK.due("41: beneath it", z.bed(0), 4);
        z.tell(0, 0);
        CHECK.due("41: by the wind", z.bed(0), 0);
        CHECK.due("41: by the wind", z.bed(1), 3);
        ThrownRosesReturn v = new ThrownRosesReturn();
        v.window(0, 1, 0);
        v.tell(0, 10);
        CHECK.due("41: by this wind", v.bed(0), 5);
        v.tell(0, 0);
        CHECK.due("41: all off the street", v.bed(0), 0);
        CHECK.due("41: all off the street", v.bed(1), 0);
    }

    private static void promise42() {
        ThrownRosesReturn x = Town.built();
        CHECK.due("42: of 0", x.off(0), 7);
        CHECK.due("42: of 1", x.off(1), 7);
        CHECK.due("42: of 2", x.off(2), 11);
        x.tell(0, 4);
        CHECK.due("42: by the wind", x.off(1), 10 + 10 + 3);
        x.tell(0, 0);
        CHECK.due("42: all", x.off(1), 30);
        refuses("42: window", x, x::off, -1, 3);
    }

    private static void promise43() {
        ThrownRosesReturn x = Town.built();
        CHECK.due("43: the least of three", x.windFor(0, 0, 0, 0), 4);
        CHECK.due("43: 0", x.windFor(4, 0, 0, 0), 0);
        CHECK.due("43: 0 though less would do", x.windFor(4, 0, 1, 1), 0);
        CHECK.due("43: back from off the street", x.windFor(4, 0, 9, 2), 9);
        CHECK.due("43: 10", x.windFor(1, 0, 8, 2), 10);
        CHECK.unrefused("43: none", x, () -> x.windFor(3, 0, 0, 0), Town.NONE);
        CHECK.due("43: WIND stays", x.status(3), 5);
        x.thrown(0, 0, 0);
        CHECK.unrefused("43: with a rose", x, () -> x.windFor(0, 0, 0, 0), Town.NONE);
        CHECK.due("43: him behind", x.windFor(3, 0, 0, 0), 5);
        refusesThrows("43:", x, x::windFor);
    }

    private static void promise44() {
        ThrownRosesReturn x = Town.built();
        int[] due = {4, 4, 1, 4, 0, 0, 0, 2, 2, 2, 2, -1};
        for (int cell = 0; cell < 12; cell++) {
            int wanted = cell;
            CHECK.unrefused("44: in " + cell, x, () -> x.catches(wanted), due[cell]);
        }
        x.thrown(0, 0, 0);
        CHECK.due("44: him behind", x.catches(5), 3);
        CHECK.due("44: another", x.catches(6), 2);
        refuses("44: cell", x, x::catches, -1, 12);
        x.paves(13);
        CHECK.due("44: a new cell", x.catches(12), Town.NONE);
    }

    private static void promise45() {
        ThrownRosesReturn x = Town.built();
        CHECK.due("45: the last", x.gaps(), 1 << 11);
        x.thrown(0, 3, 1);
        CHECK.due("45: with a rose he doesn't", x.gaps(), 0b111110000000);
        x.paves(30);
        CHECK.due("45: all the new ones", x.gaps(), 0b111111111111111111111110000000);
        CHECK.due("45: not refused", x.status(12), 0);
    }

    private static void promise46() {
        ThrownRosesReturn x = Town.built();
        CHECK.due("46: two", x.between(1, 2), 11);
        CHECK.due("46: the other way", x.between(2, 1), 11);
        CHECK.due("46: of all", x.between(0, 2), 3435);
        CHECK.due("46: the same", x.between(1, 1), 15);
        x.tell(0, 0);
        CHECK.due("46: by the wind", x.between(0, 1), 0);
        refuses("46: window", x, window -> x.between(window, 0), -1, 3);
        refuses("46: other", x, other -> x.between(0, other), -1, 3);
    }

    private static void promise47() {
        ThrownRosesReturn x = Town.built();
        CHECK.due("47: from 0", x.fondest(0), 0);
        CHECK.due("47: from 1", x.fondest(1), 1);
        CHECK.due("47: from 2, though 3 is fonder", x.fondest(2), 2);
        x.thrown(0, 0, 0);
        CHECK.due("47: without him", x.fondest(0), 1);
        x.put(1, 11);
        CHECK.due("47: of several the first", x.fondest(0), 1);
        x.thrown(0, 6, 1);
        CHECK.due("47: 2 and 4 alike", x.fondest(0), 2);
        refuses("47: window", x, x::fondest, -1, 3);
        ThrownRosesReturn y = new ThrownRosesReturn();
        y.window(0, 1, 0);
        CHECK.unrefused("47: nobody", y, () -> y.fondest(0), Town.NONE);
        y.person(0, 0, 11);
        CHECK.unrefused("47: nobody near", y, () -> y.fondest(0), Town.NONE);
        y.person(0, 9, 0);
        CHECK.due("47: of FOND 1", y.fondest(0), 1);
    }

    private static void promise48() {
        ThrownRosesReturn x = Town.built();
        int[] due = {0, 0, 2, -1, 0, -1};
        for (int p = 0; p < 6; p++) {
            int wanted = p;
            CHECK.unrefused("48: of " + p, x, () -> x.admirer(wanted), due[p]);
        }
        x.put(3, 11);
        CHECK.due("48: TIMID at the last", x.admirer(3), 2);
        x.thrown(0, 0, 0);
        CHECK.unrefused("48: with a rose", x, () -> x.admirer(0), Town.NONE);
        x.put(1, 10);
        CHECK.due("48: of 1 at 10", x.admirer(1), 0);
        x.tell(0, 0);
        CHECK.due("48: by the wind", x.admirer(1), Town.NONE);
        refuses("48: person", x, x::admirer, -1, 6);
    }

    private static void promise49() {
        ThrownRosesReturn x = Town.built();
        int[] due = {48, 48, 18, 16, 17, 9, 5, 4, 4, 4, 4, 0};
        for (int cell = 0; cell < 12; cell++) {
            CHECK.due("49: " + cell, x.reached(cell), due[cell]);
        }
        x.thrown(0, 0, 0);
        CHECK.due("49: with a rose or not", x.reached(5), 9);
        refuses("49: cell", x, x::reached, -1, 12);
    }

    private static void promise50() {
        ThrownRosesReturn x = Town.built();
        CHECK.due("50: none", x.late(0), 0);
        CHECK.due("50: a HORSE", x.late(5), 5);
        x.tell(2, 24);
        CHECK.due("50: TIMID", x.late(3), 4);
        x.tell(1, 1);
        CHECK.due("50: TIMID a day on", x.late(3), 5);
        x.tell(2, 3);
        CHECK.due("50: all", x.late(0), 7);
        CHECK.due("50: RAKE", x.late(4), 0);
        CHECK.due("50: a HORSE", x.late(5), 7);
        refuses("50: person", x, x::late, -1, 6);
    }

    private static void promise51() {
        ThrownRosesReturn x = Town.built();
        for (int kind = 0; kind < 6; kind++) {
            CHECK.due("51: of " + kind, x.ofKind(kind), 1);
        }
        x.person(4, 0, 0);
        x.person(4, 0, 0);
        CHECK.due("51: three", x.ofKind(4), 3);
        CHECK.due("51: just a kind", x.ofKind(2), 1);
        CHECK.due("51: just a kind", x.ofKind(0), 1);
        CHECK.due("51: nobody", new ThrownRosesReturn().ofKind(0), 0);
        refuses("51: kind", x, x::ofKind, -1, 6);
    }

    private static void promise52() {
        ThrownRosesReturn x = Town.built();
        Town.lay(x, 0, 3, 0, 292, 91, 3, -1, 300);
        CHECK.due("52: none so far", x.judge(0, 0), Town.NONE);
        CHECK.unrefused("52: all may be", x, () -> x.judge(0, 3), Town.NONE);
        CHECK.due("52: way 3", x.judge(0, 4), 3);
        CHECK.due("52: the first", x.judge(0, 6), 3);
        x.set(0, 3, 2);
        CHECK.due("52: below 0", x.judge(0, 6), 4);
        x.set(0, 4, 199);
        CHECK.due("52: way 9", x.judge(0, 6), 4);
        x.set(0, 4, 190);
        CHECK.due("52: no such window", x.judge(0, 6), 5);
        x.set(0, 5, 1L << 32);
        CHECK.due("52: too great", x.judge(0, 6), 5);
        x.set(0, 5, Long.MIN_VALUE);
        CHECK.due("52: too small", x.judge(0, 6), 5);
        x.window(0, 1, 0);
        x.set(0, 5, 300);
        CHECK.due("52: a new window", x.judge(0, 6), Town.NONE);
        x.set(0, 0, 3);
        CHECK.due("52: the very first", x.judge(0, 6), 0);
        Town.lay(x, 1, 4, 1, 0, 5);
        CHECK.due("52: of booleans", x.judge(1, 3), Town.NONE);
        CHECK.due("52: no roses", x.status(7), 0);
        x.row(2, 0, 40);
        CHECK.due("52: forty", x.judge(2, 40), Town.NONE);
    }

    private static void promise52Codes() {
        ThrownRosesReturn x = ofEight();
        Town.lay(x, 0, 1, 792, 0);
        CHECK.due("52: the last throw of all", x.judge(0, 2), Town.NONE);
        CHECK.due("53: lands off", x.behind(0, 1, 3), 1);
        for (int force = 0; force < 8; force++) {
            x.person(1, 0, 6 + force);
        }
        for (int force = 0; force < 8; force++) {
            Town.lay(x, 0, 1, 701 + 10 * force);
            CHECK.due("53: who catches by force " + force, x.behind(0, 1, 0), 1 << force);
        }
        x.put(0, 14);
        x.put(1, 15);
        Town.lay(x, 0, 1, 781, 791);
        CHECK.due("53: who catches by forces 8 and 9", x.behind(0, 2, 0), 3);
    }

    private static void promise52Refusals() {
        ThrownRosesReturn x = Town.built();
        x.row(0, 2, 3);
        x.show(1, 0);
        CHECK.refused("52: shelf -1", x, () -> x.judge(-1, 0), Town.BAD);
        CHECK.refused("52: shelf 8", x, () -> x.judge(8, 0), Town.BAD);
        CHECK.refused("52: n -1", x, () -> x.judge(1, -1), Town.BAD);
        CHECK.refused("52: n 41", x, () -> x.judge(2, 41), Town.BAD);
        CHECK.refused("52: one of the people", x, () -> x.judge(1, 40), Town.OTHER);
        CHECK.refused("52: nothing", x, () -> x.judge(2, 40), Town.NOTHING);
        CHECK.refused("52: fewer", x, () -> x.judge(0, 4), Town.BAD);
        CHECK.due("52: just so many", x.judge(0, 3), Town.NONE);
    }

    private static void behindIs(ThrownRosesReturn x, String what, int n, int... due) {
        for (int k = 0; k < due.length; k++) {
            CHECK.due("53: " + what + ", what " + k, x.behind(0, n, k), due[k]);
        }
    }

    private static void promise53() {
        ThrownRosesReturn x = Town.built();
        Town.lay(x, 0, 2, 0, 0, 0, 71, 232, 200);
        behindIs(x, "none", 0, 0, 0, 0, 0);
        behindIs(x, "one", 1, 1, 1, 0, 0);
        behindIs(x, "who catches keeps it", 2, 9, 2, 0, 0);
        behindIs(x, "nobody left", 3, 9, 2, 1, 0);
        behindIs(x, "off", 4, 9, 2, 1, 1);
        behindIs(x, "another", 5, 13, 3, 1, 1);
        behindIs(x, "the last cell", 6, 13, 3, 2, 1);
        CHECK.due("53: nothing is changed", x.status(7), 0);
        x.thrown(0, 0, 0);
        behindIs(x, "from how all stand now", 1, 9, 1, 0, 0);
        x.tell(0, 0);
        behindIs(x, "by the wind", 1, 17, 1, 0, 0);
    }

    private static void promise53Refusals() {
        ThrownRosesReturn x = Town.built();
        Town.lay(x, 0, 3, 0, 0, 3);
        x.show(1, 0);
        CHECK.refused("53: shelf -1", x, () -> x.behind(-1, 0, 0), Town.BAD);
        CHECK.refused("53: shelf 8", x, () -> x.behind(8, 0, 0), Town.BAD);
        CHECK.refused("53: n -1", x, () -> x.behind(1, -1, 0), Town.BAD);
        CHECK.refused("53: n 41", x, () -> x.behind(2, 41, 0), Town.BAD);
        CHECK.refused("53: what -1", x, () -> x.behind(1, 0, -1), Town.BAD);
        CHECK.refused("53: what 4", x, () -> x.behind(2, 0, 4), Town.BAD);
        CHECK.refused("53: one of the people", x, () -> x.behind(1, 40, 0), Town.OTHER);
        CHECK.refused("53: nothing", x, () -> x.behind(2, 40, 0), Town.NOTHING);
        CHECK.refused("53: fewer, ahead of STUCK", x, () -> x.behind(0, 4, 0), Town.BAD);
        CHECK.refused("53: it is wrong", x, () -> x.behind(0, 3, 1), Town.STUCK);
        CHECK.due("53: but not so far", x.behind(0, 2, 1), 2);
        x.set(0, 2, 300);
        CHECK.refused("53: no such window", x, () -> x.behind(0, 3, 3), Town.STUCK);
        x.set(0, 2, 1L << 32);
        CHECK.refused("53: too great", x, () -> x.behind(0, 3, 3), Town.STUCK);
    }
}
