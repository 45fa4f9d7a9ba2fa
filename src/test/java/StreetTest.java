/** Promises 9 to 18: what stands on the street, told by calls and read from THE TAPE. */
public final class StreetTest {
    private static final Check CHECK = new Check("StreetTest");

    public static void main(String[] args) {
        promise9();
        promise10();
        promise11();
        promise12();
        promise13();
        promise14();
        promise15();
        promise16();
        promise16Each();
        promise16Faults();
        promise16Numbers();
        promise16NoRoom();
        promise16AllOrNothing();
        promise17();
        promise18();
        CHECK.close();
    }

    private static void promise9() {
        ThrownRosesReturn x = new ThrownRosesReturn();
        CHECK.due("9: as many", x.paves(12), 12);
        CHECK.due("9: one more", x.paves(13), 12);
        CHECK.due("9: cells", x.status(2), 13);
        CHECK.due("9: a window on the last", x.window(12, 1, 0), 0);
        CHECK.refused("9: fewer", x, () -> x.paves(12), Town.BAD);
        CHECK.refused("9: 1", x, () -> x.paves(1), Town.BAD);
        CHECK.refused("9: -1", x, () -> x.paves(-1), Town.BAD);
        CHECK.refused("9: 31", x, () -> x.paves(31), Town.BAD);
        CHECK.due("9: as they were", x.paves(30), 13);
        CHECK.due("9: cells", x.status(2), 30);
        CHECK.refused("9: 31 of 30", x, () -> x.paves(31), Town.BAD);
    }

    private static void promise10() {
        ThrownRosesReturn x = new ThrownRosesReturn();
        CHECK.due("10: the first", x.window(0, 1, 0), 0);
        CHECK.due("10: another", x.window(11, 5, 9), 1);
        CHECK.due("10: a cell", x.windowOf(1, 0), 11);
        CHECK.refused("10: cell -1", x, () -> x.window(-1, 1, 0), Town.BAD);
        CHECK.refused("10: cell 12", x, () -> x.window(12, 1, 0), Town.BAD);
        CHECK.refused("10: floor 0", x, () -> x.window(0, 0, 0), Town.BAD);
        CHECK.refused("10: floor 6", x, () -> x.window(0, 6, 0), Town.BAD);
        CHECK.refused("10: thorns -1", x, () -> x.window(0, 1, -1), Town.BAD);
        CHECK.refused("10: thorns 10", x, () -> x.window(0, 1, 10), Town.BAD);
        CHECK.due("10: two so far", x.status(1), 2);
        for (int w = 2; w < 8; w++) {
            CHECK.due("10: in one cell", x.window(3, 1, 0), w);
        }
        CHECK.refused("10: a ninth", x, () -> x.window(3, 1, 0), Town.FULL);
        CHECK.refused("10: BAD ahead of FULL", x, () -> x.window(3, 6, 0), Town.BAD);
        CHECK.due("10: eight", x.status(1), 8);
    }

    private static void promise11() {
        ThrownRosesReturn x = new ThrownRosesReturn();
        CHECK.due("11: the first", x.person(0, 0, 0), 0);
        CHECK.due("11: another", x.person(5, 9, 11), 1);
        CHECK.due("11: no rose", x.personOf(1, 3), Town.NONE);
        CHECK.due("11: not due", x.personOf(1, 4), Town.NONE);
        CHECK.refused("11: kind -1", x, () -> x.person(-1, 0, 0), Town.BAD);
        CHECK.refused("11: kind 6", x, () -> x.person(6, 0, 0), Town.BAD);
        CHECK.refused("11: a -1", x, () -> x.person(0, -1, 0), Town.BAD);
        CHECK.refused("11: a 10", x, () -> x.person(0, 10, 0), Town.BAD);
        CHECK.refused("11: cell -1", x, () -> x.person(0, 0, -1), Town.BAD);
        CHECK.refused("11: cell 12", x, () -> x.person(0, 0, 12), Town.BAD);
        CHECK.due("11: two so far", x.status(0), 2);
        for (int p = 2; p < 8; p++) {
            CHECK.due("11: in one cell", x.person(4, 0, 3), p);
        }
        CHECK.refused("11: a ninth", x, () -> x.person(0, 0, 0), Town.FULL);
        CHECK.refused("11: BAD ahead of FULL", x, () -> x.person(0, 0, 12), Town.BAD);
        CHECK.due("11: eight", x.status(0), 8);
    }

    private static void promise12() {
        ThrownRosesReturn x = Town.built();
        CHECK.due("12: put", x.put(0, 11), 5);
        CHECK.due("12: is there", x.personOf(0, 2), 11);
        CHECK.due("12: again", x.put(0, 0), 11);
        CHECK.due("12: where he is", x.put(0, 0), 0);
        CHECK.due("12: the others stay", x.personOf(3, 2), 5);
        CHECK.refused("12: person -1", x, () -> x.put(-1, 0), Town.BAD);
        CHECK.refused("12: person 6", x, () -> x.put(6, 0), Town.BAD);
        CHECK.refused("12: cell -1", x, () -> x.put(0, -1), Town.BAD);
        CHECK.refused("12: cell 12", x, () -> x.put(0, 12), Town.BAD);
        CHECK.due("12: as he was", x.personOf(0, 2), 0);
        x.paves(13);
        CHECK.due("12: cell 12 of 13", x.put(0, 12), 0);
    }

    private static void promise13() {
        ThrownRosesReturn x = new ThrownRosesReturn();
        CHECK.due("13: wind", x.tell(0, 10), 5);
        CHECK.due("13: wind", x.tell(0, 0), 10);
        CHECK.due("13: day", x.tell(1, 999), 0);
        CHECK.due("13: lent", x.tell(2, 0), 40);
        CHECK.due("13: lent", x.tell(2, 999), 0);
        CHECK.due("13: wind is", x.status(3), 0);
        CHECK.due("13: day is", x.status(4), 999);
        CHECK.due("13: lent is", x.status(5), 999);
        CHECK.refused("13: what -1", x, () -> x.tell(-1, 0), Town.BAD);
        CHECK.refused("13: what 3", x, () -> x.tell(3, 0), Town.BAD);
        CHECK.refused("13: wind 11", x, () -> x.tell(0, 11), Town.BAD);
        CHECK.refused("13: wind -1", x, () -> x.tell(0, -1), Town.BAD);
        CHECK.refused("13: day 1000", x, () -> x.tell(1, 1000), Town.BAD);
        CHECK.refused("13: day -1", x, () -> x.tell(1, -1), Town.BAD);
        CHECK.refused("13: lent 1000", x, () -> x.tell(2, 1000), Town.BAD);
        CHECK.refused("13: lent -1", x, () -> x.tell(2, -1), Town.BAD);
        CHECK.due("13: day back", x.tell(1, 0), 999);
        CHECK.due("13: wind as it was", x.status(3), 0);
    }

    private static void promise14() {
        ThrownRosesReturn x = new ThrownRosesReturn();
        CHECK.due("14: feed 0", x.feed(0), 1);
        CHECK.due("14: feed 255", x.feed(255), 2);
        CHECK.refused("14: -1", x, () -> x.feed(-1), Town.BAD);
        CHECK.refused("14: 256", x, () -> x.feed(256), Town.BAD);
        CHECK.due("14: its size", x.status(8), 2);
        for (int size = 3; size <= 250; size++) {
            CHECK.due("14: feed", x.feed(' '), size);
        }
        CHECK.refused("14: a 251st", x, () -> x.feed(' '), Town.FULL);
        CHECK.refused("14: BAD ahead of FULL", x, () -> x.feed(256), Town.BAD);
        CHECK.due("14: its size", x.status(8), 250);
        CHECK.due("14: the fault", x.street(), -20);
    }

    private static void promise15() {
        ThrownRosesReturn x = new ThrownRosesReturn();
        CHECK.due("15: empty", x.wipe(), 0);
        Town.feed(x, "cells");
        CHECK.due("15: wipe", x.wipe(), 5);
        CHECK.due("15: its size", x.status(8), 0);
        CHECK.due("15: again", x.wipe(), 0);
        CHECK.due("15: what was on it is gone", Town.read(x, "day 7"), 1);
        CHECK.due("15: day", x.status(4), 7);
    }

    private static void promise16() {
        ThrownRosesReturn x = new ThrownRosesReturn();
        CHECK.due("16: some", Town.read(x, "cells 14;window 13 5 9;person 4 9 13;at 0 12;wind 0;day 999;lent 0"), 7);
        CHECK.due("16: tape", x.status(8), 0);
        int[] due = {1, 1, 14, 0, 999, 0, 0, 0};
        for (int what = 0; what < due.length; what++) {
            CHECK.due("16: status(" + what + ")", x.status(what), due[what]);
        }
        int[] window = {13, 5, 9};
        for (int what = 0; what < 3; what++) {
            CHECK.due("16: windowOf", x.windowOf(0, what), window[what]);
        }
        int[] person = {4, 9, 12, -1, -1, 3};
        for (int what = 0; what < 6; what++) {
            CHECK.due("16: personOf", x.personOf(0, what), person[what]);
        }
        CHECK.due("16: to what there is", Town.read(x, "at 0 3;window 0 1 0"), 2);
        CHECK.due("16: at", x.personOf(0, 2), 3);
        CHECK.due("16: windows", x.status(1), 2);
    }

    private static void promise16Each() {
        ThrownRosesReturn x = new ThrownRosesReturn();
        CHECK.due("16: blanks", Town.read(x, "  day   3  ;  lent 4  "), 2);
        CHECK.due("16: no blanks", Town.read(x, "day5;lent6;cells13"), 3);
        CHECK.due("16: day", x.status(4), 5);
        CHECK.due("16: lent", x.status(5), 6);
        CHECK.due("16: cells", x.status(2), 13);
        CHECK.due("16: as many cells", Town.read(x, "cells 13"), 1);
        CHECK.due("16: three digits", Town.read(x, "day 007;wind 010"), 2);
        CHECK.due("16: day", x.status(4), 7);
        CHECK.due("16: wind", x.status(3), 10);
        CHECK.due("16: one behind the other", Town.read(x, "day 1;day 2;day 3"), 3);
        CHECK.due("16: the last stands", x.status(4), 3);
    }

    private static void promise16Faults() {
        fault("", 0);
        fault("   ", 3);
        fault(";", 0);
        fault("  ;day 1", 2);
        fault("day", 3);
        fault("day ", 4);
        fault("day 1;", 6);
        fault("day 1; ", 7);
        fault("day 1;;day 2", 6);
        fault("day ;", 4);
        fault("day day", 4);
        fault("day 1 2", 6);
        fault("day 1 day 2", 6);
        fault("days 1", 0);
        fault("da 1", 0);
        fault("xay 1", 0);
        fault("dax 1", 0);
        fault("Day 1", 0);
        fault("dAy 1", 0);
        fault("day 1;3", 6);
        fault("3", 0);
        fault("day -1", 4);
        fault("day 1-day 2", 5);
        fault("day\t1", 3);
        fault("day 1;\u00e9", 6);
        fault("day 1\u00ff", 5);
        fault("day 1;\0", 6);
        fault("window 1 2", 10);
        fault("window 1 2;", 10);
        fault("person 1 2 day", 11);
    }

    private static void promise16Numbers() {
        fault("day 1000", 4);
        fault("day 0001", 4);
        fault("day 1;lent 1000", 11);
        fault("day 99999999999999999999", 4);
        fault("wind 11", 5);
        fault("cells 11", 6);
        fault("cells 31", 6);
        fault("cells 14;cells 13", 15);
        fault("window 12 1 0", 7);
        fault("window 0 0 0", 9);
        fault("window 0 6 0", 9);
        fault("window 0 1 10", 11);
        fault("person 6 0 0", 7);
        fault("person 0 10 0", 9);
        fault("person 0 0 12", 11);
        fault("at 0 0", 3);
        fault("person 0 0 0;at 1 0", 16);
        fault("person 0 0 0;at 0 12", 18);
        fault("window 12 1 0;cells 13", 7);
    }

    /** The fault on a new object, which stays as it was but for the refusal and the tape. */
    private static void fault(String text, int place) {
        ThrownRosesReturn x = new ThrownRosesReturn();
        Town.feed(x, text);
        CHECK.due("16: street of '" + text + "'", x.street(), -20 - place);
        int[] due = {0, 0, 12, 5, 0, 40, 0, 0, 0, 1, 0, -1, 1, 0, 0, 0, 0};
        for (int what = 0; what < due.length; what++) {
            CHECK.due("16: status(" + what + ") behind '" + text + "'", x.status(what), due[what]);
        }
    }

    private static void promise16NoRoom() {
        ThrownRosesReturn x = new ThrownRosesReturn();
        for (int i = 0; i < 7; i++) {
            x.window(0, 1, 0);
            x.person(0, 0, 0);
        }
        CHECK.due("16: a ninth window", Town.read(x, "window 0 1 0;window 0 1 0"), -33);
        CHECK.due("16: neither came", x.status(1), 7);
        CHECK.due("16: a ninth of the people", Town.read(x, "person 0 0 0; person 0 0 0"), -34);
        CHECK.due("16: neither came", x.status(0), 7);
        CHECK.due("16: an eighth each", Town.read(x, "window 0 1 0;person 0 0 0"), 2);
        CHECK.due("16: its word, though it ends", Town.read(x, "window"), -20);
        CHECK.due("16: its word, though more is wrong", Town.read(x, "day 1;person 9 9 99"), -26);
        CHECK.due("16: the rest goes on", Town.read(x, "at 7 11"), 1);
        CHECK.due("16: at", x.personOf(7, 2), 11);
        CHECK.due("16: refused", x.status(12), 4);
        CHECK.due("16: not as FULL", x.status(16), 0);
    }

    private static void promise16AllOrNothing() {
        ThrownRosesReturn x = Town.built();
        int text = Town.read(x, "cells 20;window 19 1 0;person 0 0 19;at 0 19;wind 1;day 1;lent 1;day x");
        CHECK.due("16: fault", text, -20 - 69);
        int[] due = {6, 3, 12, 5, 0, 40, 0, 0, 0};
        for (int what = 0; what < due.length; what++) {
            CHECK.due("16: status(" + what + ")", x.status(what), due[what]);
        }
        CHECK.due("16: at", x.personOf(0, 2), 5);
        CHECK.due("16: catches", x.catches(5), 0);
        CHECK.due("16: people of the same tape", Town.read(x, "cells 20;person 1 2 19;at 6 18"), 3);
        CHECK.due("16: at", x.personOf(6, 2), 18);
        CHECK.due("16: another", Town.read(x, "person 1 2 17"), 1);
        int[] one = {1, 2, 17};
        for (int what = 0; what < 3; what++) {
            CHECK.due("16: personOf", x.personOf(7, what), one[what]);
        }
    }

    private static void promise17() {
        ThrownRosesReturn x = Town.built();
        int[][] due = {
            {0, 4, 5, -1, -1, 1}, {1, 2, 2, -1, -1, 0}, {2, 7, 8, -1, -1, 2},
            {3, 9, 5, -1, -1, 0}, {4, 1, 1, -1, -1, 3}, {5, 0, 0, -1, -1, 1},
        };
        for (int p = 0; p < 6; p++) {
            for (int what = 0; what < 6; what++) {
                CHECK.due("17: personOf(" + p + ", " + what + ")", x.personOf(p, what), due[p][what]);
            }
        }
        x.thrown(2, 2, 2);
        CHECK.due("17: rose", x.personOf(2, 3), 2);
        CHECK.due("17: due", x.personOf(2, 4), 3);
        CHECK.unrefused("17: NONE", x, () -> x.personOf(0, 3), Town.NONE);
        CHECK.refused("17: person -1", x, () -> x.personOf(-1, 0), Town.BAD);
        CHECK.refused("17: person 6", x, () -> x.personOf(6, 0), Town.BAD);
        CHECK.refused("17: what -1", x, () -> x.personOf(0, -1), Town.BAD);
        CHECK.refused("17: what 6", x, () -> x.personOf(0, 6), Town.BAD);
    }

    private static void promise18() {
        ThrownRosesReturn x = Town.built();
        int[][] due = {{5, 3, 4}, {0, 1, 4}, {11, 5, 9}};
        for (int w = 0; w < 3; w++) {
            for (int what = 0; what < 3; what++) {
                CHECK.due("18: windowOf(" + w + ", " + what + ")", x.windowOf(w, what), due[w][what]);
            }
        }
        CHECK.refused("18: window -1", x, () -> x.windowOf(-1, 0), Town.BAD);
        CHECK.refused("18: window 3", x, () -> x.windowOf(3, 0), Town.BAD);
        CHECK.refused("18: what -1", x, () -> x.windowOf(0, -1), Town.BAD);
        CHECK.refused("18: what 3", x, () -> x.windowOf(0, 3), Town.BAD);
    }
}
