import java.util.ArrayList;
import java.util.Arrays;
import java.util.Comparator;
import java.util.List;
import java.util.Optional;
import java.util.function.IntPredicate;
import java.util.stream.IntStream;

/**
 * A second, plain reading of the document for RunsTest: slow, with the Java library, and each answer reckoned
 * from the words of its own promise, so that a slip in the class is not made here again.
 */
public final class Model {
    private static final int NONE = -1;
    private static final String KIND_PATHS = "C CS CB CST CBR CH";

    /** What is refused, thrown from as deep as it is found. */
    private static final class Refusal extends RuntimeException {
        private static final long serialVersionUID = 1;
        final int number;

        Refusal(int number) {
            this.number = number;
        }
    }

    private record Win(int cell, int floor, int thorns) {
    }

    private record One(int kind, int a, int at, int rose, int due) {
        One moved(int cell) {
            return new One(kind, a, cell, rose, due);
        }

        One having(int window, int day) {
            return new One(kind, a, at, window, day);
        }

        int reach() {
            return "102031".charAt(kind) - '0';
        }

        boolean reaches(int cell) {
            return Math.abs(cell - at) <= reach();
        }

        int slow(int floor) {
            int shy = a + a + 3;
            return new int[] {a, shy, a / 2, shy + floor, 0, a + 10}[kind];
        }
    }

    private static final class World {
        List<Win> wins = new ArrayList<>();
        List<One> ones = new ArrayList<>();
        int cells = 12;
        int wind = 5;
        int day;
        int lent = 40;
        int said;
        int seed = 1;

        World copy() {
            World w = new World();
            w.wins = new ArrayList<>(wins);
            w.ones = new ArrayList<>(ones);
            w.cells = cells;
            w.wind = wind;
            w.day = day;
            w.lent = lent;
            w.said = said;
            w.seed = seed;
            return w;
        }

        World withWind(int other) {
            World w = copy();
            w.wind = other;
            return w;
        }

        World withPerson(int person, One one) {
            World w = copy();
            w.ones.set(person, one);
            return w;
        }

        int lands(int window, int force, int way) {
            Win win = wins.get(window);
            int cell = win.cell + new int[] {0, 1, -1}[way] * (force * win.floor / 3) + (wind - 5);
            return cell >= 0 && cell < cells ? cell : NONE;
        }

        int catcher(int cell, int absent) {
            if (cell == NONE) {
                return NONE;
            }
            Optional<Integer> first = IntStream.range(0, ones.size()).boxed()
                    .filter(p -> p != absent && ones.get(p).rose == NONE && ones.get(p).reaches(cell))
                    .min(Comparator.<Integer>comparingInt(p -> ones.get(p).kind == 5 ? 1 : 0)
                            .thenComparing(p -> Math.abs(ones.get(p).at - cell)).thenComparing(p -> p));
            return first.orElse(NONE);
        }

        int caught(int window, int force, int way) {
            return catcher(lands(window, force, way), NONE);
        }

        /** The codes (10 times force and way) of the throws by which somebody catches. */
        List<Integer> throwsFor(int person, int window) {
            List<Integer> codes = new ArrayList<>();
            for (int force = 0; force < 10; force++) {
                for (int way = 0; way < 3; way++) {
                    if (caught(window, force, way) == person) {
                        codes.add(10 * force + way);
                    }
                }
            }
            return codes;
        }

        boolean hits(int window, int person) {
            return !throwsFor(person, window).isEmpty();
        }

        int[] landings(int window) {
            return IntStream.range(0, 30).map(t -> lands(window, t / 3, t % 3)).toArray();
        }

        boolean comes(int person, int window) {
            One one = ones.get(person);
            Win win = wins.get(window);
            return day + one.slow(win.floor) <= lent && (one.kind != 5 || win.floor == 1);
        }

        int doThrow(int window, int force, int way) {
            int p = caught(window, force, way);
            if (p != NONE) {
                One one = ones.get(p);
                int due = comes(p, window) ? day + one.slow(wins.get(window).floor) : NONE;
                ones.set(p, one.having(window, due));
            }
            return p;
        }

        void nextDay() {
            if (day < 999) {
                day++;
            }
            for (int p = 0; p < ones.size(); p++) {
                One one = ones.get(p);
                if (one.due != NONE && one.due <= day) {
                    ones.set(p, one.having(NONE, NONE));
                    said++;
                }
            }
        }

        int draw(int n) {
            seed = (int) (seed * 1103515245L + 12345L);
            return (int) (((seed & 0xFFFFFFFFL) >> 16) % n);
        }
    }

    private World world = new World();
    private World kept;
    private final StringBuilder tape = new StringBuilder();
    private final Object[] shelves = new Object[8];
    private final int[] sorts = new int[8];
    private final int[] refusals = new int[5];

    private interface Answer {
        long of();
    }

    private long refusing(Answer answer) {
        try {
            return answer.of();
        } catch (Refusal refusal) {
            refusals[-2 - Math.max(refusal.number, -6)]++;
            return refusal.number;
        }
    }

    private int answer(Answer answer) {
        return (int) refusing(answer);
    }

    private static void need(boolean isSo, int refusal) {
        if (!isSo) {
            throw new Refusal(refusal);
        }
    }

    private static void in(int v, int least, int below) {
        need(v >= least && v < below, -2);
    }

    private void isShelf(int s) {
        in(s, 0, 8);
    }

    private void isPerson(int p) {
        in(p, 0, world.ones.size());
    }

    private void isWindow(int w) {
        in(w, 0, world.wins.size());
    }

    private void isThrow(int w, int force, int way) {
        isWindow(w);
        in(force, 0, 10);
        in(way, 0, 3);
    }

    private long[] rowOf(int s) {
        need(!(shelves[s] instanceof Integer), -3);
        need(shelves[s] != null, -4);
        return (long[]) shelves[s];
    }

    private static int bits(int below, IntPredicate has) {
        return IntStream.range(0, below).filter(has).map(i -> 1 << i).sum();
    }

    private int windows(IntPredicate has) {
        return bits(world.wins.size(), has);
    }

    private int people(IntPredicate has) {
        return bits(world.ones.size(), has);
    }

    /** The first of 0 to below less 1 that has the greatest measure, if that is more than least; NONE. */
    private static int greatest(int below, int least, java.util.function.IntUnaryOperator measure) {
        int best = NONE;
        int most = least;
        for (int i = 0; i < below; i++) {
            int size = measure.applyAsInt(i);
            if (size > most) {
                most = size;
                best = i;
            }
        }
        return best;
    }

    public int row(int s, int sort, int n) {
        return answer(() -> {
            isShelf(s);
            in(sort, 0, 5);
            in(n, 0, 41);
            shelves[s] = new long[n];
            sorts[s] = sort;
            return 1;
        });
    }

    public int set(int s, int i, long v) {
        return answer(() -> {
            isShelf(s);
            long[] row = rowOf(s);
            in(i, 0, row.length);
            int bits = new int[] {8, 16, 32, 64, 64}[sorts[s]];
            row[i] = sorts[s] == 4 ? (v == 0 ? 0 : 1) : v << (64 - bits) >> (64 - bits);
            return 1;
        });
    }

    public int copy(int p, int q, int i, int j, int n) {
        return answer(() -> {
            isShelf(p);
            isShelf(q);
            need(!(shelves[p] instanceof Integer) && !(shelves[q] instanceof Integer), -3);
            need(shelves[p] == null || shelves[q] == null || sorts[p] == sorts[q], -3);
            need(shelves[p] != null && shelves[q] != null, -4);
            long[] from = ((long[]) shelves[p]).clone();
            long[] to = (long[]) shelves[q];
            need(i >= 0 && j >= 0 && n >= 0 && (long) i + n <= from.length && (long) j + n <= to.length, -2);
            for (int k = 0; k < n; k++) {
                to[j + k] = from[i + k];
            }
            return n;
        });
    }

    public long element(int s, int i) {
        boolean has = s >= 0 && s < 8 && shelves[s] instanceof long[] row && i >= 0 && i < row.length;
        return has ? ((long[]) shelves[s])[i] : 0;
    }

    public int holds(int s) {
        if (s < 0 || s > 7 || shelves[s] == null) {
            return NONE;
        }
        return shelves[s] instanceof Integer person ? 10 + person : sorts[s];
    }

    public int show(int s, int person) {
        return answer(() -> {
            isShelf(s);
            if (person != NONE) {
                isPerson(person);
            }
            shelves[s] = person == NONE ? null : (Object) person;
            return 1;
        });
    }

    public int says(int s, int kind) {
        return answer(() -> {
            isShelf(s);
            in(kind, 0, 6);
            need(!(shelves[s] instanceof long[]), -3);
            need(shelves[s] != null, -4);
            One one = world.ones.get((Integer) shelves[s]);
            String[] paths = KIND_PATHS.split(" ");
            need(paths[one.kind].startsWith(paths[kind]), -3);
            return kind == 0 ? one.a : one.slow(5);
        });
    }

    public int paves(int n) {
        return answer(() -> {
            in(n, Math.max(2, world.cells), 31);
            int before = world.cells;
            world.cells = n;
            return before;
        });
    }

    public int window(int cell, int floor, int thorns) {
        return answer(() -> {
            in(cell, 0, world.cells);
            in(floor, 1, 6);
            in(thorns, 0, 10);
            need(world.wins.size() < 8, -6);
            world.wins.add(new Win(cell, floor, thorns));
            return world.wins.size() - 1;
        });
    }

    public int person(int kind, int a, int cell) {
        return answer(() -> {
            in(kind, 0, 6);
            in(a, 0, 10);
            in(cell, 0, world.cells);
            need(world.ones.size() < 8, -6);
            world.ones.add(new One(kind, a, cell, NONE, NONE));
            return world.ones.size() - 1;
        });
    }

    public int put(int person, int cell) {
        return answer(() -> {
            isPerson(person);
            in(cell, 0, world.cells);
            return world.ones.set(person, world.ones.get(person).moved(cell)).at;
        });
    }

    public int tell(int what, int v) {
        return answer(() -> {
            in(what, 0, 3);
            in(v, 0, what == 0 ? 11 : 1000);
            int before = status(3 + what);
            switch (what) {
                case 0 -> world.wind = v;
                case 1 -> world.day = v;
                default -> world.lent = v;
            }
            return before;
        });
    }

    public int feed(int letter) {
        return answer(() -> {
            in(letter, 0, 256);
            need(tape.length() < 250, -6);
            tape.append((char) letter);
            return tape.length();
        });
    }

    public int wipe() {
        int before = tape.length();
        tape.setLength(0);
        return before;
    }

    /** The fault of a tape, thrown from where it stands. */
    private static final class Fault extends RuntimeException {
        private static final long serialVersionUID = 1;
        final int place;

        Fault(int place) {
            this.place = place;
        }
    }

    private record Token(String text, int place) {
    }

    private static List<Token> tokens(String text) {
        List<Token> tokens = new ArrayList<>();
        java.util.regex.Matcher m = java.util.regex.Pattern.compile("[a-z]+|[0-9]+|;|[^ ]", java.util.regex.Pattern.DOTALL)
                .matcher(text);
        while (m.find()) {
            tokens.add(new Token(m.group(), m.start()));
        }
        tokens.add(new Token("", text.length()));
        return tokens;
    }

    private static int number(List<Token> tokens, int least, int most) {
        Token token = tokens.remove(0);
        if (!token.text.matches("[0-9]{1,3}")) {
            throw new Fault(token.place);
        }
        int v = Integer.parseInt(token.text);
        if (v < least || v > most) {
            throw new Fault(token.place);
        }
        return v;
    }

    private static void statement(World w, List<Token> tokens) {
        Token verb = tokens.remove(0);
        switch (verb.text) {
            case "cells" -> w.cells = number(tokens, w.cells, 30);
            case "window" -> {
                if (w.wins.size() == 8) {
                    throw new Fault(verb.place);
                }
                w.wins.add(new Win(number(tokens, 0, w.cells - 1), number(tokens, 1, 5), number(tokens, 0, 9)));
            }
            case "person" -> {
                if (w.ones.size() == 8) {
                    throw new Fault(verb.place);
                }
                w.ones.add(new One(number(tokens, 0, 5), number(tokens, 0, 9), number(tokens, 0, w.cells - 1),
                        NONE, NONE));
            }
            case "at" -> {
                int p = number(tokens, 0, w.ones.size() - 1);
                w.ones.set(p, w.ones.get(p).moved(number(tokens, 0, w.cells - 1)));
            }
            case "wind" -> w.wind = number(tokens, 0, 10);
            case "day" -> w.day = number(tokens, 0, 999);
            case "lent" -> w.lent = number(tokens, 0, 999);
            default -> throw new Fault(verb.place);
        }
    }

    public int street() {
        List<Token> tokens = tokens(tape.toString());
        tape.setLength(0);
        World next = world.copy();
        int statements = 0;
        try {
            do {
                statement(next, tokens);
                statements++;
            } while (tokens.get(0).text.equals(";") && tokens.remove(0) != null);
            if (tokens.size() > 1) {
                throw new Fault(tokens.get(0).place);
            }
        } catch (Fault fault) {
            refusals[0]++;
            return -20 - fault.place;
        }
        world = next;
        return statements;
    }

    public int personOf(int person, int what) {
        return answer(() -> {
            isPerson(person);
            in(what, 0, 6);
            One one = world.ones.get(person);
            return new int[] {one.kind, one.a, one.at, one.rose, one.due, one.reach()}[what];
        });
    }

    public int windowOf(int window, int what) {
        return answer(() -> {
            isWindow(window);
            in(what, 0, 3);
            Win win = world.wins.get(window);
            return new int[] {win.cell, win.floor, win.thorns}[what];
        });
    }

    public int lands(int window, int force, int way) {
        return answer(() -> {
            isThrow(window, force, way);
            return world.lands(window, force, way);
        });
    }

    public int caught(int window, int force, int way) {
        return answer(() -> {
            isThrow(window, force, way);
            return world.caught(window, force, way);
        });
    }

    public int slow(int person, int window) {
        return answer(() -> {
            isPerson(person);
            isWindow(window);
            return world.ones.get(person).slow(world.wins.get(window).floor);
        });
    }

    public int comes(int person, int window) {
        return answer(() -> {
            isPerson(person);
            isWindow(window);
            return world.comes(person, window) ? 1 : 0;
        });
    }

    public int throwsFor(int person, int window, int what) {
        return answer(() -> {
            isPerson(person);
            isWindow(window);
            in(what, 0, 3);
            List<Integer> codes = world.throwsFor(person, window);
            if (what == 0) {
                return codes.size();
            }
            return codes.isEmpty() ? NONE : what == 1 ? codes.get(0) / 10 : codes.get(0) % 10;
        });
    }

    public int hit(int window) {
        return answer(() -> {
            isWindow(window);
            return people(p -> world.hits(window, p));
        });
    }

    private static int open(World w, int window) {
        return bits(w.cells, cell -> Arrays.stream(w.landings(window)).anyMatch(c -> c == cell));
    }

    public int open(int window, int what) {
        return answer(() -> {
            isWindow(window);
            in(what, 0, 2);
            if (what == 0) {
                return open(world, window);
            }
            return IntStream.rangeClosed(0, 10).map(wind -> open(world.withWind(wind), window)).reduce(0, (x, y) -> x | y);
        });
    }

    public int whose(int person, int thorns, int what) {
        return answer(() -> {
            isPerson(person);
            in(thorns, 0, 10);
            in(what, 0, 3);
            One one = world.ones.get(person);
            int[] windows = IntStream.range(0, world.wins.size())
                    .filter(w -> world.wins.get(w).thorns == thorns)
                    .filter(w -> Arrays.stream(world.landings(w)).anyMatch(c -> c != NONE && one.reaches(c))).toArray();
            IntStream floors = Arrays.stream(windows).map(w -> world.wins.get(w).floor);
            if (what == 0) {
                return Arrays.stream(windows).map(w -> 1 << w).sum();
            }
            if (what == 1) {
                return floors.sum();
            }
            int least = floors.min().orElse(0);
            return Arrays.stream(windows).filter(w -> world.wins.get(w).floor == least).findFirst().orElse(NONE);
        });
    }

    private int fondness(int window, int person) {
        return 10 - Math.abs(world.wins.get(window).thorns - world.ones.get(person).a);
    }

    public int fond(int window, int person) {
        return answer(() -> {
            isWindow(window);
            isPerson(person);
            return fondness(window, person);
        });
    }

    private int bestFond;
    private int[] bestRow;

    /** Every row there is, in the order of rows, so that the first of the greatest is the first that is greater. */
    private void tryRows(boolean[][] hits, int[] row, int window, int taken, int fond) {
        if (window == row.length) {
            if (fond > bestFond) {
                bestFond = fond;
                bestRow = row.clone();
            }
            return;
        }
        row[window] = NONE;
        tryRows(hits, row, window + 1, taken, fond);
        for (int p = 0; p < world.ones.size(); p++) {
            if (hits[window][p] && (taken & 1 << p) == 0) {
                row[window] = p;
                tryRows(hits, row, window + 1, taken | 1 << p, fond + fondness(window, p));
            }
        }
    }

    public int pairs(int window) {
        return answer(() -> {
            if (window != -2 && window != NONE) {
                isWindow(window);
            }
            World bare = world.copy();
            bare.ones.replaceAll(one -> one.having(NONE, NONE));
            boolean[][] hits = new boolean[world.wins.size()][world.ones.size()];
            for (int w = 0; w < hits.length; w++) {
                for (int p = 0; p < hits[w].length; p++) {
                    hits[w][p] = bare.hits(w, p);
                }
            }
            bestFond = -1;
            tryRows(hits, new int[hits.length], 0, 0, 0);
            if (window == NONE) {
                return bestFond;
            }
            return window == -2 ? Arrays.stream(bestRow).filter(p -> p != NONE).count() : bestRow[window];
        });
    }

    private boolean isCode(long code) {
        for (int w = 0; w < world.wins.size(); w++) {
            for (int t = 0; t < 30; t++) {
                if (code == 100 * w + 10 * (t / 3) + t % 3) {
                    return true;
                }
            }
        }
        return false;
    }

    private static int lands(World w, long code) {
        return w.lands((int) (code / 100), (int) (code % 100 / 10), (int) (code % 10));
    }

    public int winds(int s, int n) {
        return answer(() -> {
            isShelf(s);
            in(n, 0, 21);
            long[] row = rowOf(s);
            need(row.length >= n + n, -2);
            need(IntStream.range(0, n).allMatch(k -> isCode(row[k + k])), -5);
            return bits(11, wind -> IntStream.range(0, n)
                    .allMatch(k -> lands(world.withWind(wind), row[k + k]) == row[k + k + 1]));
        });
    }

    public int kinds(int s, int n, int person) {
        return answer(() -> {
            isShelf(s);
            in(n, 0, 21);
            isPerson(person);
            long[] row = rowOf(s);
            need(row.length >= n + n, -2);
            need(IntStream.range(0, n).allMatch(k -> row[k + k] >= 0 && row[k + k] < world.wins.size()), -5);
            One one = world.ones.get(person);
            return bits(6, kind -> IntStream.range(0, n).allMatch(k -> new One(kind, one.a, 0, NONE, NONE)
                    .slow(world.wins.get((int) row[k + k]).floor) == row[k + k + 1]));
        });
    }

    private int[] windsFor(int person, int window, int force, int way) {
        return IntStream.rangeClosed(0, 10)
                .filter(wind -> world.withWind(wind).caught(window, force, way) == person).toArray();
    }

    public int chance(int person, int window, int force, int way) {
        return answer(() -> {
            isPerson(person);
            isThrow(window, force, way);
            return 1000000L * windsFor(person, window, force, way).length / 11;
        });
    }

    public int safest(int person, int window) {
        return answer(() -> {
            isPerson(person);
            isWindow(window);
            return greatest(100, 0, code -> code % 10 > 2 ? 0 : windsFor(person, window, code / 10, code % 10).length);
        });
    }

    private int queueOf(int window, int day) {
        return (int) world.ones.stream().filter(one -> one.rose == window && one.due == day).count();
    }

    public int queue(int window, int day) {
        return answer(() -> {
            isWindow(window);
            in(day, 0, 1000);
            return queueOf(window, day);
        });
    }

    public int longest(int what) {
        return answer(() -> {
            in(what, 0, 3);
            int place = greatest(1000 * world.wins.size(), 0, k -> queueOf(k / 1000, k % 1000));
            if (place == NONE) {
                return what == 0 ? 0 : NONE;
            }
            return new int[] {queueOf(place / 1000, place % 1000), place % 1000, place / 1000}[what];
        });
    }

    private int hitAt(int person, int cell) {
        World moved = world.withPerson(person, world.ones.get(person).moved(cell));
        return (int) IntStream.range(0, world.wins.size()).filter(w -> moved.hits(w, person)).count();
    }

    public int move(int person, int what) {
        return answer(() -> {
            isPerson(person);
            in(what, 0, 2);
            int cell = greatest(world.cells, -1, c -> hitAt(person, c));
            return what == 0 ? cell : hitAt(person, cell);
        });
    }

    public int rival(int person, int window, int force, int way) {
        return answer(() -> {
            isPerson(person);
            isThrow(window, force, way);
            return world.catcher(world.lands(window, force, way), person);
        });
    }

    private IntStream dues() {
        return world.ones.stream().mapToInt(One::due).filter(due -> due != NONE);
    }

    public int having(int what) {
        return answer(() -> {
            in(what, 0, 3);
            int first = dues().min().orElse(-7);
            return people(p -> {
                One one = world.ones.get(p);
                return what == 2 ? one.due == first : one.rose != NONE && (what == 0 || one.due == NONE);
            });
        });
    }

    public int due(int what) {
        return answer(() -> {
            in(what, 0, 2);
            return (what == 0 ? dues().min() : dues().max()).orElse(NONE);
        });
    }

    public int lentFor(int person, int window) {
        return answer(() -> {
            isPerson(person);
            isWindow(window);
            World w = world.copy();
            return IntStream.range(0, 1000).filter(lent -> {
                w.lent = lent;
                return w.comes(person, window);
            }).findFirst().orElse(NONE);
        });
    }

    public int best(int what) {
        return answer(() -> {
            in(what, 0, 2);
            need(!world.wins.isEmpty(), -5);
            int window = greatest(world.wins.size(), -1, w -> Integer.bitCount(people(p -> world.hits(w, p))));
            return what == 0 ? window : Integer.bitCount(people(p -> world.hits(window, p)));
        });
    }

    private int landedIn(int cell) {
        return IntStream.range(0, world.wins.size())
                .map(w -> (int) Arrays.stream(world.landings(w)).filter(c -> c == cell).count()).sum();
    }

    public int bed(int what) {
        return answer(() -> {
            in(what, 0, 2);
            int cell = greatest(world.cells, -1, this::landedIn);
            return what == 0 ? cell : landedIn(cell);
        });
    }

    public int off(int window) {
        return answer(() -> {
            isWindow(window);
            return Arrays.stream(world.landings(window)).filter(c -> c == NONE).count();
        });
    }

    public int windFor(int person, int window, int force, int way) {
        return answer(() -> {
            isPerson(person);
            isThrow(window, force, way);
            return Arrays.stream(windsFor(person, window, force, way)).min().orElse(NONE);
        });
    }

    public int catches(int cell) {
        return answer(() -> {
            in(cell, 0, world.cells);
            return world.catcher(cell, NONE);
        });
    }

    public int gaps() {
        return bits(world.cells, cell -> world.catcher(cell, NONE) == NONE);
    }

    public int between(int window, int other) {
        return answer(() -> {
            isWindow(window);
            isWindow(other);
            return open(world, window) & open(world, other);
        });
    }

    public int fondest(int window) {
        return answer(() -> {
            isWindow(window);
            return greatest(world.ones.size(), 0, p -> world.hits(window, p) ? fondness(window, p) : 0);
        });
    }

    public int admirer(int person) {
        return answer(() -> {
            isPerson(person);
            return greatest(world.wins.size(), 0, w -> world.hits(w, person) ? fondness(w, person) : 0);
        });
    }

    public int reached(int cell) {
        return answer(() -> {
            in(cell, 0, world.cells);
            return people(p -> world.ones.get(p).reaches(cell));
        });
    }

    public int late(int person) {
        return answer(() -> {
            isPerson(person);
            return windows(w -> !world.comes(person, w));
        });
    }

    public int ofKind(int kind) {
        return answer(() -> {
            in(kind, 0, 6);
            return world.ones.stream().filter(one -> one.kind == kind).count();
        });
    }

    private int wrong(long[] row, int n) {
        return IntStream.range(0, n).filter(k -> !isCode(row[k])).findFirst().orElse(NONE);
    }

    public int judge(int s, int n) {
        return answer(() -> {
            isShelf(s);
            in(n, 0, 41);
            long[] row = rowOf(s);
            need(row.length >= n, -2);
            return wrong(row, n);
        });
    }

    public int behind(int s, int n, int what) {
        return answer(() -> {
            isShelf(s);
            in(n, 0, 41);
            in(what, 0, 4);
            long[] row = rowOf(s);
            need(row.length >= n, -2);
            need(wrong(row, n) == NONE, -5);
            World w = world.copy();
            int[] counts = new int[4];
            for (int k = 0; k < n; k++) {
                int by = w.doThrow((int) row[k] / 100, (int) row[k] % 100 / 10, (int) row[k] % 10);
                counts[by != NONE ? 1 : lands(w, row[k]) != NONE ? 2 : 3]++;
            }
            counts[0] = bits(w.ones.size(), p -> w.ones.get(p).rose != NONE);
            return counts[what];
        });
    }

    public int thrown(int window, int force, int way) {
        return answer(() -> {
            isThrow(window, force, way);
            return world.doThrow(window, force, way);
        });
    }

    public int days(int n) {
        return answer(() -> {
            in(n, 1, 61);
            for (int k = 0; k < n; k++) {
                world.nextDay();
            }
            return world.said;
        });
    }

    public int drawn(int n) {
        return answer(() -> {
            in(n, 1, 41);
            need(!world.wins.isEmpty(), -5);
            int count = 0;
            for (int k = 0; k < n; k++) {
                world.wind = world.draw(11);
                int window = world.draw(world.wins.size());
                int force = world.draw(10);
                int by = world.doThrow(window, force, world.draw(3));
                world.nextDay();
                count += by == NONE ? 0 : 1;
            }
            return count;
        });
    }

    public int seed(int v) {
        int before = world.seed;
        world.seed = v;
        return before;
    }

    public int image() {
        kept = world.copy();
        return 1;
    }

    public int back() {
        return answer(() -> {
            need(kept != null, -5);
            world = kept.copy();
            for (int s = 0; s < 8; s++) {
                if (shelves[s] instanceof Integer person && person >= world.ones.size()) {
                    shelves[s] = null;
                }
            }
            return 1;
        });
    }

    public int status(int what) {
        if (what >= 12 && what <= 16) {
            return refusals[what - 12];
        }
        long haveRoses = world.ones.stream().filter(one -> one.rose != NONE).count();
        long filled = Arrays.stream(shelves).filter(held -> held != null).count();
        int[] known = {world.ones.size(), world.wins.size(), world.cells, world.wind, world.day, world.lent, world.said,
            (int) haveRoses, tape.length(), world.seed, (int) filled};
        return what >= 0 && what < known.length ? known[what] : NONE;
    }
}
