/** Promises 19 to 22: a throw, who catches it, and whether he comes with it. */
public final class ThrowTest {
    private static final Check CHECK = new Check("ThrowTest");

    public static void main(String[] args) {
        promise19();
        promise19Wind();
        promise19Refusals();
        promise20();
        promise20Roses();
        promise20Horses();
        promise20Refusals();
        promise21();
        promise22();
        promise22Edges();
        CHECK.close();
    }

    private static void promise19() {
        ThrownRosesReturn x = Town.built();
        int[] far = {0, 1, 3, 5, 6, 8, 10, 11, 13, 15};
        for (int force = 0; force < 10; force++) {
            CHECK.due("19: straight down", x.lands(0, force, 0), 5);
            CHECK.due("19: up", x.lands(0, force, 1), force <= 6 ? 5 + force : Town.NONE);
            CHECK.due("19: down", x.lands(0, force, 2), force <= 5 ? 5 - force : Town.NONE);
            CHECK.due("19: by 3, cut", x.lands(1, force, 1), force / 3);
            CHECK.due("19: floor 5", x.lands(2, force, 2), far[force] <= 11 ? 11 - far[force] : Town.NONE);
        }
        x.paves(30);
        CHECK.due("19: further on a longer street", x.lands(2, 9, 1), 26);
    }

    private static void promise19Wind() {
        ThrownRosesReturn x = Town.built();
        x.tell(0, 0);
        CHECK.due("19: down by 5", x.lands(0, 0, 0), 0);
        CHECK.due("19: up and down again", x.lands(0, 9, 1), 9);
        CHECK.due("19: off by the wind", x.lands(0, 1, 2), Town.NONE);
        CHECK.unrefused("19: off", x, () -> x.lands(1, 0, 0), Town.NONE);
        x.tell(0, 10);
        CHECK.due("19: up by 5", x.lands(0, 0, 0), 10);
        CHECK.due("19: back by the wind", x.lands(0, 9, 2), 1);
        CHECK.due("19: off", x.lands(0, 2, 1), Town.NONE);
        x.tell(0, 4);
        CHECK.due("19: down by 1", x.lands(0, 0, 0), 4);
    }

    private static void promise19Refusals() {
        ThrownRosesReturn x = Town.built();
        CHECK.refused("19: window -1", x, () -> x.lands(-1, 0, 0), Town.BAD);
        CHECK.refused("19: window 3", x, () -> x.lands(3, 0, 0), Town.BAD);
        CHECK.refused("19: force -1", x, () -> x.lands(0, -1, 0), Town.BAD);
        CHECK.refused("19: force 10", x, () -> x.lands(0, 10, 0), Town.BAD);
        CHECK.refused("19: way -1", x, () -> x.lands(0, 0, -1), Town.BAD);
        CHECK.refused("19: way 3", x, () -> x.lands(0, 0, 3), Town.BAD);
    }

    private static void promise20() {
        ThrownRosesReturn x = Town.built();
        int[] up = {0, 0, 2, 2, 2, 2, -1, -1, -1, -1};
        int[] down = {0, 0, 4, 1, 4, 4, -1, -1, -1, -1};
        for (int force = 0; force < 10; force++) {
            CHECK.due("20: straight down", x.caught(0, force, 0), 0);
            CHECK.due("20: up " + force, x.caught(0, force, 1), up[force]);
            CHECK.due("20: down " + force, x.caught(0, force, 2), down[force]);
        }
        CHECK.due("20: nothing came of it", x.status(7), 0);
        x.put(0, 11);
        CHECK.due("20: the other there", x.caught(0, 0, 0), 3);
        x.put(3, 11);
        CHECK.due("20: none there", x.caught(0, 0, 0), Town.NONE);
        x.put(2, 3);
        CHECK.due("20: 2 off", x.caught(0, 0, 0), 2);
        x.put(4, 7);
        CHECK.due("20: of several as near the first", x.caught(0, 0, 0), 2);
        x.put(4, 6);
        CHECK.due("20: the nearest", x.caught(0, 0, 0), 4);
    }

    private static void promise20Roses() {
        ThrownRosesReturn x = Town.built();
        x.thrown(0, 0, 0);
        CHECK.due("20: who has one doesn't", x.caught(0, 0, 0), 3);
        x.thrown(0, 0, 0);
        CHECK.unrefused("20: nobody left", x, () -> x.caught(0, 0, 0), Town.NONE);
        CHECK.due("20: further ones", x.caught(0, 1, 1), 2);
        CHECK.due("20: and the other side", x.caught(0, 1, 2), 4);
    }

    private static void promise20Horses() {
        ThrownRosesReturn x = new ThrownRosesReturn();
        x.window(5, 3, 0);
        x.person(5, 0, 4);
        x.person(5, 0, 5);
        CHECK.due("20: the nearest horse", x.caught(0, 0, 0), 1);
        CHECK.due("20: of two as near", x.caught(0, 0, 0), 1);
        x.put(1, 6);
        CHECK.due("20: the first horse", x.caught(0, 0, 0), 0);
        x.person(4, 0, 8);
        CHECK.due("20: one 3 off ahead of horses", x.caught(0, 0, 0), 2);
        x.thrown(0, 0, 0);
        CHECK.due("20: unless he has a rose", x.caught(0, 0, 0), 0);
        x.put(0, 7);
        x.put(1, 7);
        CHECK.due("20: horses reach 1", x.caught(0, 0, 0), Town.NONE);
    }

    private static void promise20Refusals() {
        ThrownRosesReturn x = Town.built();
        CHECK.unrefused("20: off the street", x, () -> x.caught(0, 9, 1), Town.NONE);
        CHECK.unrefused("20: nobody", x, () -> x.caught(2, 0, 0), Town.NONE);
        CHECK.refused("20: window -1", x, () -> x.caught(-1, 0, 0), Town.BAD);
        CHECK.refused("20: window 3", x, () -> x.caught(3, 0, 0), Town.BAD);
        CHECK.refused("20: force -1", x, () -> x.caught(0, -1, 0), Town.BAD);
        CHECK.refused("20: force 10", x, () -> x.caught(0, 10, 0), Town.BAD);
        CHECK.refused("20: way -1", x, () -> x.caught(0, 0, -1), Town.BAD);
        CHECK.refused("20: way 3", x, () -> x.caught(0, 0, 3), Town.BAD);
    }

    private static void promise21() {
        ThrownRosesReturn x = Town.built();
        int[][] due = {{4, 4, 4}, {7, 7, 7}, {3, 3, 3}, {24, 22, 26}, {0, 0, 0}, {10, 10, 10}};
        for (int p = 0; p < 6; p++) {
            for (int w = 0; w < 3; w++) {
                CHECK.due("21: slow(" + p + ", " + w + ")", x.slow(p, w), due[p][w]);
            }
        }
        x.person(5, 9, 0);
        x.person(4, 9, 0);
        CHECK.due("21: another HORSE", x.slow(6, 0), 19);
        CHECK.due("21: another RAKE", x.slow(7, 0), 0);
        CHECK.refused("21: person -1", x, () -> x.slow(-1, 0), Town.BAD);
        CHECK.refused("21: person 8", x, () -> x.slow(8, 0), Town.BAD);
        CHECK.refused("21: window -1", x, () -> x.slow(0, -1), Town.BAD);
        CHECK.refused("21: window 3", x, () -> x.slow(0, 3), Town.BAD);
    }

    private static void promise22() {
        ThrownRosesReturn x = Town.built();
        for (int p = 0; p < 5; p++) {
            for (int w = 0; w < 3; w++) {
                CHECK.due("22: comes(" + p + ", " + w + ")", x.comes(p, w), 1);
            }
        }
        CHECK.due("22: a HORSE to floor 3", x.comes(5, 0), 0);
        CHECK.due("22: a HORSE to floor 1", x.comes(5, 1), 1);
        CHECK.due("22: a HORSE to floor 5", x.comes(5, 2), 0);
        CHECK.refused("22: person -1", x, () -> x.comes(-1, 0), Town.BAD);
        CHECK.refused("22: person 6", x, () -> x.comes(6, 0), Town.BAD);
        CHECK.refused("22: window -1", x, () -> x.comes(0, -1), Town.BAD);
        CHECK.refused("22: window 3", x, () -> x.comes(0, 3), Town.BAD);
    }

    private static void promise22Edges() {
        ThrownRosesReturn x = Town.built();
        x.tell(1, 33);
        CHECK.due("22: ere Lent, just", x.comes(1, 0), 1);
        x.tell(1, 34);
        CHECK.due("22: a day late", x.comes(1, 0), 0);
        x.tell(1, 40);
        CHECK.due("22: a RAKE on the day", x.comes(4, 2), 1);
        x.tell(1, 41);
        CHECK.due("22: a RAKE behind it", x.comes(4, 2), 0);
        x.tell(2, 999);
        x.tell(1, 989);
        CHECK.due("22: a HORSE, just", x.comes(5, 1), 1);
        x.tell(1, 990);
        CHECK.due("22: a HORSE, late", x.comes(5, 1), 0);
        x.tell(1, 0);
        x.tell(2, 22);
        CHECK.due("22: TIMID by FLOOR, just", x.comes(3, 1), 1);
        CHECK.due("22: TIMID by FLOOR, late", x.comes(3, 0), 0);
    }
}
