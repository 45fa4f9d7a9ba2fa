/** The words on the text that a street is read from: promises 14 to 16. */
final class TapeSentences {
    private static final String[] STATEMENTS = {
        "cells 14", "window 3 2 4", "person 1 2 3", "at 4 2", "wind 7", "day 8", "lent 9",
    };

    private TapeSentences() {
    }

    static void test(Sentences t) {
        bytes(t);
        tokens(t);
        blanks(t);
        statements(t);
        windowsAndPeople(t);
        numbers(t);
        allOrNothing(t);
        faults(t);
        numbersAtFault(t);
        noRoom(t);
        endings(t);
    }

    private static void reads(Sentences t, String text, int statements) {
        ThrownRosesReturn x = new ThrownRosesReturn();
        Town.feed(x, text);
        t.taken("'" + text + "'", x, x::street, statements);
    }

    /** A text with a fault, on a new object, which it leaves as a refusal and an empty tape would. */
    private static void fault(Sentences t, String text, int place) {
        fault(t, text, place, ThrownRosesReturn::new);
    }

    private static void fault(Sentences t, String text, int place, java.util.function.Supplier<ThrownRosesReturn> made) {
        t.refusedText("'" + text + "'", made, text, place);
    }

    private static void day(Sentences t, String text, int day) {
        ThrownRosesReturn x = new ThrownRosesReturn();
        Town.feed(x, text);
        t.taken("'" + text + "'", x, x::street, 1);
        t.due("day of '" + text + "'", x.status(4), day);
    }

    private static void bytes(Sentences t) {
        t.terms(14, "A STREET is read from THE TAPE (bytes, 250 at most).", () -> {
            ThrownRosesReturn x = new ThrownRosesReturn();
            t.taken("byte 0", x, () -> x.feed(0), 1);
            t.taken("byte 255", x, () -> x.feed(255), 2);
            t.refused("byte -1", Stands::busy, y -> y.feed(-1), Town.BAD);
            t.refused("byte 256", Stands::busy, y -> y.feed(256), Town.BAD);
            Town.feed(x, " ".repeat(247));
            t.taken("the last that it takes", x, () -> x.feed(7), 250);
            t.due("the next", x.feed(7), Town.FULL);
            t.due("stays as it was", x.status(8), 250);
            reads(t, "day 7" + " ".repeat(245), 1);
            reads(t, " ".repeat(245) + "day 7", 1);
            fault(t, "day 7" + " ".repeat(244) + "x", 249);
            fault(t, "day 7" + " ".repeat(244) + ";", 250);
        });
    }

    private static void tokens(Sentences t) {
        t.terms(16, "TOKENS, each as long as can be:", () -> {
            day(t, "day12", 12);
            day(t, "day 123", 123);
            fault(t, "day 12 3", 7);
            fault(t, "dayday 1", 0);
            fault(t, "days 1", 0);
            fault(t, "day 1day 2", 5);
            reads(t, "cells 15", 1);
            fault(t, "cells 1 5", 6);
        });
        t.terms(16, "WORDS (a .. z)", () -> {
            fault(t, "daya 1", 0);
            fault(t, "dayz 1", 0);
            fault(t, "day` 1", 3);
            fault(t, "day{ 1", 3);
            fault(t, "dayA 1", 3);
            fault(t, "Day 1", 0);
            fault(t, "DAY 1", 0);
            for (String statement : STATEMENTS) {
                int end = statement.indexOf(' ');
                for (int i = 0; i < end; i++) {
                    fault(t, statement.substring(0, i) + "z" + statement.substring(i + 1), 0, Town::built);
                    fault(t, statement.substring(0, i) + statement.substring(i + 1), 0, Town::built);
                }
                fault(t, statement.substring(0, end) + "z" + statement.substring(end), 0, Town::built);
            }
        });
        t.terms(16, "NUMBERS (digits)", () -> {
            day(t, "day 0", 0);
            day(t, "day 9", 9);
            day(t, "day 90", 90);
            fault(t, "day 1/", 5);
            fault(t, "day 1:", 5);
            fault(t, "day /", 4);
            fault(t, "day -1", 4);
            fault(t, "day +1", 4);
        });
        t.terms(16, "the SIGN ;", () -> {
            reads(t, "day 1;day 2", 2);
            fault(t, "day 1:day 2", 5);
            fault(t, "day 1<day 2", 5);
            fault(t, "day 1,day 2", 5);
            fault(t, "day 1.", 5);
        });
    }

    private static void blanks(Sentences t) {
        t.terms(16, "blanks (32) may stand anywhere between", () -> {
            day(t, "day1", 1);
            day(t, " day1", 1);
            day(t, "   day    1   ", 1);
            reads(t, " day 1 ; day 2 ", 2);
            fault(t, "d ay 1", 0);
            fault(t, "day 1 0", 6);
            for (int other : new int[] {0, 9, 10, 13, 31, 33, 160, 255}) {
                fault(t, "day" + (char) other + "1", 3);
                fault(t, (char) other + "day 1", 0);
                fault(t, "day 1" + (char) other, 5);
            }
        });
    }

    private static void statements(Sentences t) {
        t.terms(16, "STATEMENTS, one or more, with ; between:", () -> {
            fault(t, "", 0);
            reads(t, "day 1", 1);
            reads(t, "day 1;day 2;day 3", 3);
            reads(t, "day1;".repeat(49) + "day1", 50);
            fault(t, ";day 1", 0);
            fault(t, "day 1;", 6);
            fault(t, "day 1;;day 2", 6);
            fault(t, "day 1 day 2", 6);
            fault(t, "day 1;2", 6);
        });
        t.terms(16, "cells N (only as many or more)", () -> {
            reads(t, "cells 12", 1);
            fault(t, "cells 11", 6);
            fault(t, "cells 2", 6);
            fault(t, "cells 0", 6);
            reads(t, "cells 30", 1);
            fault(t, "cells 31", 6);
            reads(t, "cells 20;cells 20;cells 21", 3);
            fault(t, "cells 20;cells 19", 15);
            fault(t, "cells 12", 6, Stands::busy);
            fault(t, "cells", 5);
            fault(t, "cells 12 13", 9);
        });
    }

    private static void windowsAndPeople(Sentences t) {
        t.terms(16, "window C F T", () -> {
            ThrownRosesReturn x = new ThrownRosesReturn();
            t.due("the least", Town.read(x, "window 0 1 0"), 1);
            t.due("the greatest", Town.read(x, "window 11 5 9"), 1);
            int[][] due = {{0, 1, 0}, {11, 5, 9}};
            for (int w = 0; w < 2; w++) {
                for (int what = 0; what < 3; what++) {
                    t.due("windowOf(" + w + ", " + what + ")", x.windowOf(w, what), due[w][what]);
                }
            }
            fault(t, "window 12 1 0", 7);
            fault(t, "window 0 0 0", 9);
            fault(t, "window 0 6 0", 9);
            fault(t, "window 0 1 10", 11);
            reads(t, "cells 13;window 12 1 0", 2);
            fault(t, "window 12 1 0;cells 13", 7);
            fault(t, "window 0 1", 10);
            fault(t, "window 0 1;", 10);
            fault(t, "window 0 1 0 0", 13);
        });
        t.terms(16, "person K A C", () -> {
            ThrownRosesReturn x = new ThrownRosesReturn();
            t.due("the least", Town.read(x, "person 0 0 0"), 1);
            t.due("the greatest", Town.read(x, "person 5 9 11"), 1);
            int[][] due = {{0, 0, 0, -1, -1}, {5, 9, 11, -1, -1}};
            for (int p = 0; p < 2; p++) {
                for (int what = 0; what < 5; what++) {
                    t.due("personOf(" + p + ", " + what + ")", x.personOf(p, what), due[p][what]);
                }
            }
            fault(t, "person 6 0 0", 7);
            fault(t, "person 0 10 0", 9);
            fault(t, "person 0 0 12", 11);
            reads(t, "cells 13;person 0 0 12", 2);
            fault(t, "person 0 0", 10);
            fault(t, "person 0 0 0 0", 13);
        });
    }

    private static void numbers(Sentences t) {
        t.terms(16, "at X C", () -> {
            ThrownRosesReturn x = Town.built();
            t.due("the first", Town.read(x, "at 0 0"), 1);
            t.due("the last", Town.read(x, "at 5 11"), 1);
            t.due("is there", x.personOf(0, 2), 0);
            t.due("is there", x.personOf(5, 2), 11);
            fault(t, "at 0 0", 3);
            fault(t, "at 6 0", 3, Town::built);
            fault(t, "at 0 12", 5, Town::built);
            reads(t, "person 0 0 0;at 0 11", 2);
            fault(t, "person 0 0 0;at 1 11", 16);
            fault(t, "at 0", 4, Town::built);
        });
        t.terms(16, "wind N", () -> {
            ThrownRosesReturn x = new ThrownRosesReturn();
            t.due("the least", Town.read(x, "wind 0"), 1);
            t.due("is 0", x.status(3), 0);
            t.due("the greatest", Town.read(x, "wind 10"), 1);
            t.due("is 10", x.status(3), 10);
            fault(t, "wind 11", 5);
            fault(t, "wind 999", 5);
        });
        t.terms(16, "day N; lent N (999 at most both)", () -> {
            ThrownRosesReturn x = new ThrownRosesReturn();
            t.due("the greatest", Town.read(x, "day 999;lent 999"), 2);
            t.due("day 999", x.status(4), 999);
            t.due("lent 999", x.status(5), 999);
            t.due("the least", Town.read(x, "day 0;lent 0"), 2);
            t.due("day 0", x.status(4), 0);
            t.due("lent 0", x.status(5), 0);
            fault(t, "day 1000", 4);
            fault(t, "lent 1000", 5);
        });
    }

    private static void allOrNothing(Sentences t) {
        t.terms(16, "All comes to what there is, or nothing.", () -> {
            ThrownRosesReturn x = Town.built();
            t.due("all", Town.read(x, "cells 14;window 13 2 3;person 1 2 13;at 6 12;wind 4;day 8;lent 9"), 7);
            int[] due = {7, 4, 14, 4, 8, 9};
            for (int what = 0; what < due.length; what++) {
                t.due("status(" + what + ")", x.status(what), due[what]);
            }
            t.due("the window came behind the others", x.windowOf(3, 0), 13);
            t.due("the others stand", x.windowOf(2, 0), 11);
            t.due("at", x.personOf(6, 2), 12);
            fault(t, "cells 14;window 13 2 3;person 1 2 13;at 6 12;wind 4;day 8;lent 9;lent", 69, Town::built);
            fault(t, "at 0 9;at 1 9;at 2 9;wind 0;day 0;lent 0;x", 41, Town::built);
        });
    }

    private static void faults(Sentences t) {
        t.terms(16, "The FAULT: the place of the first byte of the first TOKEN that can't stand there (", () -> {
            fault(t, "xyz", 0);
            fault(t, "   xyz", 3);
            fault(t, "12", 0);
            fault(t, "day day", 4);
            fault(t, "day ;", 4);
            fault(t, "day 1;  lentils 5", 8);
            fault(t, "day 1   2", 8);
            fault(t, "day x;day y", 4);
            fault(t, "day 1 x;day y", 6);
            fault(t, "window 12 6 10", 7);
            fault(t, "window 1 6 10", 9);
            fault(t, "window 1 x 10", 9);
        });
        t.terms(16, "a byte that begins none)", () -> {
            for (int letter : new int[] {0, 31, 33, 45, 47, 58, 60, 64, 65, 90, 96, 123, 127, 128, 160, 225, 255}) {
                fault(t, String.valueOf((char) letter), 0);
                fault(t, "day 1;" + (char) letter, 6);
                fault(t, "day " + (char) letter, 4);
                fault(t, "day 1 " + (char) letter, 6);
            }
        });
    }

    private static void numbersAtFault(Sentences t) {
        t.terms(16, "also a NUMBER that may not be", () -> {
            fault(t, "day 1;wind 11;day 2", 11);
            fault(t, "person 9 9 99", 7);
            fault(t, "person 5 10 99", 9);
            fault(t, "person 5 9 99", 11);
            fault(t, "at 0 0", 3);
        });
        t.terms(16, "or has more than 3 digits", () -> {
            day(t, "day 007", 7);
            day(t, "day 000", 0);
            day(t, "day 999", 999);
            fault(t, "day 0007", 4);
            fault(t, "day 0000", 4);
            fault(t, "day 1000", 4);
            fault(t, "wind 0005", 5);
            fault(t, "window 000 001 0009", 15);
            fault(t, "day 4294967301", 4);
            fault(t, "day 18446744073709551621", 4);
            fault(t, "day " + "0".repeat(246), 4);
        });
    }

    private static void noRoom(Sentences t) {
        t.terms(16, "what there is no room for: its word", () -> {
            fault(t, "window 0 1 0", 0, Stands::full);
            fault(t, "day 1; person 0 0 0", 7, Stands::full);
            fault(t, "window", 0, Stands::full);
            fault(t, "window 99 9 99", 0, Stands::full);
            fault(t, "person x", 0, Stands::full);
            String seven = "window 0 1 0;".repeat(7);
            reads(t, seven + "window 0 1 0", 8);
            fault(t, seven + "window 0 1 0;window 0 1 0", 104);
            seven = "person 0 0 0;".repeat(7);
            reads(t, seven + "person 0 0 0", 8);
            fault(t, seven + "person 0 0 0;person 0 0 0", 104);
            ThrownRosesReturn x = Stands.full();
            t.due("the last one", Town.read(x, "at 7 11"), 1);
            t.due("is there", x.personOf(7, 2), 11);
        });
    }

    private static void endings(Sentences t) {
        t.terms(16, "THE TAPE's size, if it ends too early.", () -> {
            fault(t, "", 0);
            fault(t, "     ", 5);
            fault(t, "day", 3);
            fault(t, "day  ", 5);
            fault(t, "day 1;", 6);
            fault(t, "day 1; ", 7);
            fault(t, "window 1 2", 10);
            fault(t, "window 1 2  ", 12);
            fault(t, "at", 2);
            fault(t, " ".repeat(250), 250);
            fault(t, " ".repeat(247) + "day", 250);
        });
    }
}
