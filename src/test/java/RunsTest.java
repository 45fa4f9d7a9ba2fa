import java.util.ArrayList;
import java.util.Arrays;
import java.util.List;

/** Runs of at most 512 calls, drawn from a fixed seed: every answer of the class is that of the Model. */
public final class RunsTest {
    private static final Check CHECK = new Check("RunsTest");
    private static final int RUNS = 3000;
    private static final int MOST_CALLS = 512;
    /** Calls that build a street, drawn more often so that runs come to have something on it. */
    private static final List<String> BUILDERS = List.of("window", "person", "row", "set", "show", "thrown", "put", "tell");

    private final Draws draws;
    private final List<Face.Method> face;
    private final ThrownRosesReturn x = new ThrownRosesReturn();
    private final Model model = new Model();
    private final List<String> calls = new ArrayList<>();
    private boolean wrong;

    private RunsTest(long seed, List<Face.Method> face) {
        draws = new Draws(seed);
        this.face = face;
    }

    public static void main(String[] args) throws Exception {
        List<Face.Method> face = Face.methods(args.length > 0 ? args[0] : "../shared");
        CHECK.holds("the document prints the face", face.size() == 59);
        for (int run = 0; run < RUNS; run++) {
            RunsTest test = new RunsTest(run, face);
            test.run();
            CHECK.holds("run " + run, !test.wrong);
        }
        CHECK.close();
    }

    private static final class Draws {
        private long state;

        Draws(long seed) {
            // The states step by one constant, so seeds that lie side by side are set far apart.
            state = seed * 0xD1B54A32D192ED03L ^ seed << 40;
        }

        long bits() {
            state += 0x9E3779B97F4A7C15L;
            long z = state;
            z = (z ^ z >>> 30) * 0xBF58476D1CE4E5B9L;
            z = (z ^ z >>> 27) * 0x94D049BB133111EBL;
            return z ^ z >>> 31;
        }

        int below(int n) {
            return (int) Math.floorMod(bits(), (long) n);
        }

        int from(int least, int most) {
            return least + below(most - least + 1);
        }

        boolean oneIn(int n) {
            return below(n) == 0;
        }
    }

    private void run() throws Exception {
        boolean dense = draws.oneIn(2);
        if (dense) {
            build();
        }
        while (calls.size() < MOST_CALLS && !wrong) {
            if (draws.oneIn(60) && calls.size() < MOST_CALLS - 260) {
                tape();
            } else if (draws.oneIn(20) && calls.size() < MOST_CALLS - 50) {
                tellLog();
            } else {
                Face.Method method = face.get(draws.below(face.size()));
                if (draws.oneIn(4)) {
                    String name = BUILDERS.get(draws.below(BUILDERS.size()));
                    method = face.stream().filter(m -> m.name().equals(name)).findFirst().orElseThrow();
                }
                call(method);
            }
        }
    }

    private void build() throws Exception {
        if (draws.oneIn(2)) {
            call("paves", draws.from(12, 30));
        }
        for (int i = draws.from(1, 8); i > 0; i--) {
            call("window", draws.below(12), draws.from(1, 5), draws.below(10));
        }
        for (int i = draws.from(1, 8); i > 0; i--) {
            call("person", draws.below(6), draws.below(10), draws.below(12));
        }
    }

    /** A text that is mostly a street, at times with a byte of it changed, lost, or put in. */
    private void tape() throws Exception {
        StringBuilder text = new StringBuilder();
        for (int i = draws.from(1, 6); i > 0; i--) {
            text.append(statement()).append(i > 1 || draws.oneIn(12) ? blanks() + ";" + blanks() : blanks());
        }
        if (draws.oneIn(3)) {
            spoil(text);
        }
        for (int i = 0; i < Math.min(text.length(), 252) && !wrong; i++) {
            call("feed", text.charAt(i));
        }
        call("street");
    }

    private String statement() {
        int windows = model.status(1);
        int people = model.status(0);
        int cells = model.status(2);
        return switch (draws.below(7)) {
            case 0 -> "cells" + blanks() + number(cells, 30);
            case 1 -> "window " + number(0, cells - 1) + " " + number(1, 5) + " " + number(0, 9);
            case 2 -> "person " + number(0, 5) + " " + number(0, 9) + "  " + number(0, cells - 1);
            case 3 -> "at " + number(0, Math.max(0, people - 1)) + " " + number(0, cells - 1);
            case 4 -> "wind" + blanks() + number(0, 10);
            case 5 -> "day" + number(0, 999);
            default -> "lent " + number(windows, 999);
        };
    }

    private String number(int least, int most) {
        int v = draws.oneIn(25) ? most + 1 : draws.from(Math.min(least, most), most);
        return (draws.oneIn(15) ? "00" : draws.oneIn(10) ? "0" : "") + v;
    }

    private String blanks() {
        return " ".repeat(draws.oneIn(2) ? 0 : draws.below(3));
    }

    private void spoil(StringBuilder text) {
        int at = draws.below(text.length());
        switch (draws.below(4)) {
            case 0 -> text.setCharAt(at, (char) draws.below(256));
            case 1 -> text.deleteCharAt(at);
            case 2 -> text.setLength(at);
            default -> text.insert(at, "az09; -".charAt(draws.below(7)));
        }
    }

    /** A row of throws, of throws and where they land, or of windows and days, which drawn elements seldom are. */
    private void tellLog() throws Exception {
        int s = draws.below(8);
        int n = draws.from(1, 14);
        int form = draws.below(3);
        call("row", s, draws.from(1, 3), n);
        int wind = draws.below(11);
        for (int i = 0; i < n && !wrong; i++) {
            int window = draws.below(Math.max(1, model.status(1)));
            int code = 100 * window + 10 * draws.below(10) + draws.below(draws.oneIn(40) ? 4 : 3);
            long told = code;
            if (form == 1 && i % 2 == 1) {
                long before = model.element(s, i - 1);
                told = landing((int) before, wind);
            } else if (form == 2) {
                told = i % 2 == 0 ? window : draws.below(30);
            }
            call("set", s, i, told);
        }
        call("judge", s, draws.from(0, n));
        call("behind", s, draws.from(0, n), draws.below(4));
        call("winds", s, draws.from(0, n / 2));
        call("kinds", s, draws.from(0, Math.min(2, n / 2)), draws.below(Math.max(1, model.status(0))));
    }

    /** Where a throw lands by about a told wind; not asked of the model, which would count what it refuses. */
    private int landing(int code, int wind) {
        if (code / 100 >= model.status(1) || code % 10 > 2) {
            return draws.from(-1, 11);
        }
        int landed = model.lands(code / 100, code / 10 % 10, code % 10);
        return landed < 0 ? -1 : landed + wind - 5;
    }

    private void call(Face.Method method) throws Exception {
        List<Long> arguments = new ArrayList<>();
        for (String name : method.names()) {
            arguments.add(argument(method.name(), name));
        }
        call(method.name(), arguments.stream().mapToLong(v -> v).toArray());
    }

    private long argument(String method, String name) {
        if (draws.oneIn(120)) {
            long[] strange = {Integer.MIN_VALUE, Integer.MAX_VALUE, -1, -2, -3, 1L << 31, 100};
            return strange[draws.below(strange.length)];
        }
        int most = most(method, name);
        if (draws.oneIn(40)) {
            return draws.oneIn(2) ? most + 1 : -1;
        }
        return switch (method + " " + name) {
            case "pairs window" -> draws.from(-2, most);
            case "set v" -> draws.oneIn(2) ? draws.below(300) : draws.bits() >> draws.below(64);
            case "seed v" -> (int) draws.bits();
            case "window floor", "days n", "drawn n" -> draws.from(1, most);
            case "paves n" -> draws.oneIn(4) ? draws.from(0, most) : model.status(2) + draws.below(2);
            case "show person" -> draws.from(-1, most);
            case "queue day" -> draws.oneIn(3) ? Math.max(0, model.due(draws.below(2))) : draws.below(most);
            default -> draws.from(0, Math.max(0, most));
        };
    }

    private int most(String method, String name) {
        return switch (method + " " + name) {
            case "row n", "judge n", "behind n" -> 40;
            case "copy n" -> 10;
            case "winds n", "kinds n" -> draws.oneIn(2) ? 2 : 20;
            case "paves n" -> 30;
            case "days n" -> draws.oneIn(2) ? 3 : 60;
            case "drawn n" -> 40;
            case "tell v" -> draws.oneIn(2) ? 10 : draws.oneIn(2) ? 60 : 999;
            case "tell what", "personOf what" -> "tell".equals(method) ? 2 : 5;
            case "open what", "move what", "due what", "best what", "bed what" -> 1;
            case "behind what" -> 3;
            case "status what" -> 17;
            default -> switch (name) {
                case "s", "p", "q" -> 7;
                case "sort" -> 4;
                case "i", "j" -> draws.oneIn(2) ? 5 : 39;
                case "v" -> 300;
                case "person" -> model.status(0) - 1;
                case "window", "other" -> model.status(1) - 1;
                case "cell" -> model.status(2) - 1;
                case "kind", "floor" -> 5;
                case "a", "thorns", "force" -> 9;
                case "way", "what" -> 2;
                case "letter" -> 255;
                case "day" -> 60;
                default -> throw new IllegalStateException(method + " " + name);
            };
        };
    }

    /** Called on both; the first answer that differs ends the run and is told with all that came ahead of it. */
    private void call(String name, long... arguments) throws Exception {
        if (wrong || calls.size() >= MOST_CALLS) {
            return;
        }
        Face.Method method = face.stream().filter(m -> m.name().equals(name)).findFirst().orElseThrow();
        Class<?>[] types = new Class<?>[arguments.length];
        Object[] values = new Object[arguments.length];
        for (int i = 0; i < arguments.length; i++) {
            boolean isLong = method.types().get(i).equals("long");
            types[i] = isLong ? long.class : int.class;
            values[i] = isLong ? (Object) arguments[i] : (Object) (int) arguments[i];
        }
        calls.add(name + Arrays.toString(values));
        long got = ((Number) ThrownRosesReturn.class.getMethod(name, types).invoke(x, values)).longValue();
        long want = ((Number) Model.class.getMethod(name, types).invoke(model, values)).longValue();
        if (got != want) {
            wrong = true;
            System.out.println(calls + " answered " + got + ", due is " + want);
        }
    }
}
