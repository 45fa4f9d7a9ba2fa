/** The lines of promises 19 to 22, by sentences; what a throw is stands in ThrowSentences. */
final class ThrowPromises {
    private ThrowPromises() {
    }

    static void test(Sentences t) {
        lands(t);
        caught(t);
        slow(t);
        comes(t);
    }

    private static void lands(Sentences t) {
        t.promise(19, "Where a THROW LANDS; NONE.", () -> {
            ThrownRosesReturn x = Town.built();
            t.taken("the first cell", x, () -> x.lands(0, 5, 2), 0);
            t.taken("below it", x, () -> x.lands(0, 6, 2), Town.NONE);
            t.taken("the last cell", x, () -> x.lands(0, 6, 1), 11);
            t.taken("behind it", x, () -> x.lands(0, 7, 1), Town.NONE);
        });
        t.promise(19, "BAD.", () -> {
            t.bad("window", Stands::busy, (x, window) -> x.lands(window, 0, 0), -1, 3);
            t.bad("force", Stands::busy, (x, force) -> x.lands(0, force, 0), -1, 10);
            t.bad("way", Stands::busy, (x, way) -> x.lands(0, 0, way), -1, 3);
            t.bad("window of none", ThrownRosesReturn::new, (x, window) -> x.lands(window, 0, 0), -1, 0);
        });
        t.promise(19, "(NONE isn't refused.)", () -> {
            ThrownRosesReturn x = Town.built();
            t.taken("off the street", x, () -> x.lands(2, 9, 1), Town.NONE);
        });
    }

    private static void caught(Sentences t) {
        t.promise(20, "Who CATCHES it; NONE.", () -> {
            ThrownRosesReturn x = Town.built();
            t.taken("the first", x, () -> x.caught(0, 0, 0), 0);
            t.taken("another", x, () -> x.caught(0, 3, 2), 1);
            x.put(4, 11);
            t.taken("the last", x, () -> x.caught(1, 0, 0), 5);
            x.put(5, 11);
            t.taken("nobody", x, () -> x.caught(1, 0, 0), Town.NONE);
            t.due("nobody has it yet", x.status(7), 0);
        });
        t.promise(20, "BAD.", () -> {
            t.bad("window", Stands::busy, (x, window) -> x.caught(window, 0, 0), -1, 3);
            t.bad("force", Stands::busy, (x, force) -> x.caught(0, force, 0), -1, 10);
            t.bad("way", Stands::busy, (x, way) -> x.caught(0, 0, way), -1, 3);
            t.bad("window of none", ThrownRosesReturn::new, (x, window) -> x.caught(window, 0, 0), -1, 0);
        });
        t.promise(20, "(NONE isn't refused.)", () -> {
            ThrownRosesReturn x = Town.built();
            t.taken("off the street", x, () -> x.caught(2, 9, 1), Town.NONE);
            t.taken("nobody near", x, () -> x.caught(2, 0, 0), Town.NONE);
        });
    }

    private static void slow(Sentences t) {
        t.promise(21, "SLOW of one with a ROSE of a WINDOW.", () -> {
            ThrownRosesReturn x = Stands.full();
            int[] due = {0, 5, 1, 10, 0, 15, 6, 17};
            for (int p = 0; p < 8; p++) {
                int one = p;
                t.taken("of " + p, x, () -> x.slow(one, 0), due[p]);
                t.taken("of " + p, x, () -> x.slow(one, 7), due[p] + (p == 3 ? 2 : 0));
            }
            x.tell(2, 0);
            t.taken("whether he comes or not", x, () -> x.slow(7, 7), 17);
        });
        t.promise(21, "BAD.", () -> {
            t.bad("person", Stands::busy, (x, person) -> x.slow(person, 0), -1, 6);
            t.bad("window", Stands::busy, (x, window) -> x.slow(0, window), -1, 3);
        });
    }

    private static void comes(Sentences t) {
        t.promise(22, "Whether he COMES with it, if he has it today: 1, 0.", () -> {
            ThrownRosesReturn x = Town.built();
            x.tell(1, 36);
            t.taken("on LENT", x, () -> x.comes(0, 0), 1);
            x.tell(1, 37);
            t.taken("a day late", x, () -> x.comes(0, 0), 0);
            x.tell(1, 30);
            t.taken("a HORSE to floor 1", x, () -> x.comes(5, 1), 1);
            t.taken("a HORSE to floor 5", x, () -> x.comes(5, 2), 0);
            t.due("nobody has one", x.status(7), 0);
            ThrownRosesReturn y = Stands.busy();
            y.tell(1, 47);
            t.taken("not when he is due with what he has", y, () -> y.comes(0, 2), 0);
            y.tell(1, 46);
            t.taken("but with it today", y, () -> y.comes(0, 2), 1);
        });
        t.promise(22, "BAD.", () -> {
            t.bad("person", Stands::busy, (x, person) -> x.comes(person, 0), -1, 6);
            t.bad("window", Stands::busy, (x, window) -> x.comes(0, window), -1, 3);
        });
    }
}
