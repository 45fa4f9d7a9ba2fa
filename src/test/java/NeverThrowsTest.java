import java.lang.reflect.InvocationTargetException;
import java.util.List;

/** Rule 7 of LANGUAGE.md: no call throws, for any arguments, on an empty street or one with no room left. */
public final class NeverThrowsTest {
    private static final Check CHECK = new Check("NeverThrowsTest");
    private static final int[] NUMBERS = {
        0, 1, 2, 7, 8, -1, 29, 40, Integer.MAX_VALUE, 3, 4, 5, 6, 9, 20, 30, 41, -2, 250, Integer.MIN_VALUE,
    };

    public static void main(String[] args) throws Exception {
        List<Face.Method> face = Face.methods(args.length > 0 ? args[0] : "../shared");
        callAll(new ThrownRosesReturn(), "empty", face);
        callAll(full(false), "full", face);
        callAll(full(true), "full, with roses", face);
        fullTapes();
        CHECK.close();
    }

    private static ThrownRosesReturn full(boolean withRoses) {
        ThrownRosesReturn x = new ThrownRosesReturn();
        x.paves(30);
        for (int i = 0; i < 8; i++) {
            x.window(i == 0 ? 29 : 4 * i, 1 + i % 5, i);
            x.person(i % 6, i, i == 0 ? 29 : 4 * i);
        }
        for (int s = 0; s < 5; s++) {
            x.row(s, s, 40);
        }
        x.show(5, 7);
        x.image();
        for (int w = 0; w < 8 && withRoses; w++) {
            x.thrown(w, 0, 0);
        }
        return x;
    }

    private static void callAll(ThrownRosesReturn x, String state, List<Face.Method> face) throws Exception {
        for (Face.Method method : face) {
            int n = method.types().size();
            Class<?>[] types = method.types().stream().map(t -> t.equals("long") ? long.class : int.class).toArray(Class<?>[]::new);
            java.lang.reflect.Method call = ThrownRosesReturn.class.getMethod(method.name(), types);
            int kinds = n > 3 ? 9 : NUMBERS.length;
            int all = (int) Math.pow(kinds, n);
            String thrown = "";
            for (int k = 0; k < all; k++) {
                Object[] values = new Object[n];
                for (int i = 0, rest = k; i < n; i++, rest /= kinds) {
                    int v = NUMBERS[rest % kinds];
                    values[i] = types[i] == long.class ? (Object) (long) v : (Object) v;
                }
                try {
                    call.invoke(x, values);
                } catch (InvocationTargetException e) {
                    thrown = e.getCause() + " by " + List.of(values);
                }
            }
            CHECK.holds(method.name() + " when " + state + " " + thrown, thrown.isEmpty());
        }
    }

    /** Tapes that are full to the last byte with blanks, a word, a number, a sign. */
    private static void fullTapes() {
        for (String end : new String[] {" ", "d", "day", "7", "day 7", ";", "day 1000", "\u00ff", "window 0 1", "at"}) {
            for (String begin : new String[] {"", "day 1;", "day 1"}) {
                ThrownRosesReturn x = new ThrownRosesReturn();
                String text = begin + " ".repeat(250 - begin.length() - end.length()) + end;
                CHECK.due("size", Town.feed(x, text), 250);
                boolean fits = end.equals("day 7") && !begin.equals("day 1") || end.equals(" ") && begin.equals("day 1");
                int answer = x.street();
                CHECK.holds("'" + begin + " .. " + end + "' answered " + answer, answer > 0 == fits && answer >= -270);
            }
        }
        ThrownRosesReturn x = new ThrownRosesReturn();
        CHECK.due("size", Town.feed(x, "day1;".repeat(50)), 250);
        CHECK.due("fifty and an end too early", x.street(), -270);
        Town.feed(x, "day1;".repeat(49) + "day1");
        CHECK.due("fifty", x.street(), 50);
    }
}
