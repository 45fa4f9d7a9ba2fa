import java.io.IOException;
import java.nio.file.Files;
import java.nio.file.Path;
import java.util.function.LongSupplier;
import java.util.function.Supplier;
import java.util.function.ToLongFunction;

/**
 * Tests by sentences of the document: each quotes the words that it would fail without, and names the promise by which
 * it looks. Words that nobody quotes are told at the end, so that no sentence goes without a test.
 */
final class Sentences {
    private static final int PROMISES = 60;

    private final Check check = new Check("SentencesTest");
    /** Part 0 is what stands ahead of the promises and binds as much; part n is promise n. */
    private final String[] parts = new String[PROMISES + 1];
    private final boolean[][] quoted = new boolean[PROMISES + 1][];
    private String label = "";

    Sentences(String shared) throws IOException {
        String text = Files.readString(Path.of(shared, "DOC.md"));
        parts[0] = between(text, "\nTHE STREET\n", "\n## Promise 1:");
        for (int n = 1; n <= PROMISES; n++) {
            String part = between(text, "\n## Promise " + n + ":", n < PROMISES ? "\n## Promise " + (n + 1) + ":" : "\n## Not");
            parts[n] = part.substring(part.indexOf("`: ") + 3);
        }
        for (int n = 0; n <= PROMISES; n++) {
            quoted[n] = new boolean[parts[n].length()];
        }
    }

    private static String between(String text, String from, String to) {
        int start = text.indexOf(from) + from.length();
        return text.substring(start, text.indexOf(to, start));
    }

    /** Words of a promise's own line. */
    void promise(int number, String words, Runnable body) {
        test(number, number, words, body);
    }

    /** Words that stand ahead of the promises, seen by one of them. */
    void terms(int number, String words, Runnable body) {
        test(0, number, words, body);
    }

    private void test(int part, int number, String words, Runnable body) {
        label = "promise " + number + ", '" + words + "': ";
        int place = parts[part].indexOf(words);
        check.holds(label + "stands in the document, once", place >= 0 && place == parts[part].lastIndexOf(words));
        for (int i = 0; i < words.length() && place >= 0; i++) {
            quoted[part][place + i] = true;
        }
        body.run();
    }

    void due(String call, long got, long want) {
        check.due(label + call, got, want);
    }

    /** A call that is not refused, whatever it answers. */
    void taken(String call, ThrownRosesReturn x, LongSupplier body, long want) {
        check.unrefused(label + call, x, body, want);
    }

    /** A call that is refused, counted once, and leaves all as it stands with a twin on which it was not called. */
    void refused(String call, Supplier<ThrownRosesReturn> made, ToLongFunction<ThrownRosesReturn> body, int refusal) {
        ThrownRosesReturn x = made.get();
        check.refused(label + call, x, () -> body.applyAsLong(x), refusal);
        same(call + " leaves all as it was", x, made.get());
    }

    /** A call by one number. */
    interface OfOne {
        long answer(ThrownRosesReturn x, int v);
    }

    /** The numbers that may not be, and the ends of all ints with them. */
    void bad(String number, Supplier<ThrownRosesReturn> made, OfOne call, int... numbers) {
        for (int v : numbers) {
            refused(number + " " + v, made, x -> call.answer(x, v), Town.BAD);
        }
        refused(number + ", the least int", made, x -> call.answer(x, Integer.MIN_VALUE), Town.BAD);
        refused(number + ", the greatest int", made, x -> call.answer(x, Integer.MAX_VALUE), Town.BAD);
    }

    /** A text behind what is on the tape already (which is wiped), with its fault: nothing comes of it but a refusal. */
    void refusedText(String call, Supplier<ThrownRosesReturn> made, String text, int place) {
        Supplier<ThrownRosesReturn> wiped = () -> {
            ThrownRosesReturn x = made.get();
            x.wipe();
            return x;
        };
        ThrownRosesReturn x = wiped.get();
        Town.feed(x, text);
        int[] before = counts(x);
        due(call, x.street(), -20 - place);
        int[] after = counts(x);
        for (int k = 0; k < after.length; k++) {
            due(call + " counted as " + (-2 - k), after[k], before[k] + (k == 0 ? 1 : 0));
        }
        same(call + " leaves all as it was", x, wiped.get());
    }

    /** Winds by a row of just these elements. */
    void windsOf(ThrownRosesReturn x, int due, long... twos) {
        Town.lay(x, 0, 3, twos);
        taken("winds by " + java.util.Arrays.toString(twos), x, () -> x.winds(0, twos.length / 2), due);
    }

    /** Kinds of one by a row of just these elements. */
    void kindsOf(ThrownRosesReturn x, int person, int due, long... twos) {
        Town.lay(x, 0, 3, twos);
        taken("kinds of " + person + " by " + java.util.Arrays.toString(twos), x,
                () -> x.kinds(0, twos.length / 2, person), due);
    }

    /** A call that is not refused and leaves all as it was. */
    void onlyTells(String call, Supplier<ThrownRosesReturn> made, ToLongFunction<ThrownRosesReturn> body) {
        ThrownRosesReturn x = made.get();
        taken(call, x, () -> body.applyAsLong(x), body.applyAsLong(made.get()));
        taken(call + " again", x, () -> body.applyAsLong(x), body.applyAsLong(made.get()));
        same(call + " leaves all as it was", x, made.get());
    }

    private static int[] counts(ThrownRosesReturn x) {
        int[] counts = new int[5];
        for (int k = 0; k < counts.length; k++) {
            counts[k] = x.status(12 + k);
        }
        return counts;
    }

    /** Two objects answer alike whatever they are asked; both are spent over it. */
    void same(String what, ThrownRosesReturn x, ThrownRosesReturn twin) {
        String told = Stands.told(x);
        String wanted = Stands.told(twin);
        boolean isSame = told.equals(wanted);
        check.holds(label + what, isSame);
        if (!isSame) {
            System.out.println(told + "\n instead of\n" + wanted);
        }
    }

    void close() {
        for (int n = 0; n <= PROMISES; n++) {
            check.due("words of " + (n == 0 ? "the terms" : "promise " + n) + " without a test:" + unquoted(n),
                    unquoted(n).length(), 0);
        }
        check.close();
    }

    /** Headings and the marks of code blocks need no test. */
    private String unquoted(int part) {
        StringBuilder left = new StringBuilder();
        int start = 0;
        for (String line : parts[part].split("\n", -1)) {
            if (!line.startsWith("```") && !line.startsWith("==== 2.")) {
                String rest = unquoted(part, start, start + line.length());
                left.append(rest.chars().anyMatch(Character::isLetterOrDigit) ? " .. " + rest.trim() : "");
            }
            start += line.length() + 1;
        }
        return left.toString();
    }

    private String unquoted(int part, int from, int to) {
        StringBuilder rest = new StringBuilder();
        for (int i = from; i < to; i++) {
            rest.append(quoted[part][i] ? '.' : parts[part].charAt(i));
        }
        return rest.toString().replaceAll("\\.{4,}", " ... ");
    }
}
