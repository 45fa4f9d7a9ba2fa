import java.util.function.LongSupplier;

/** Counts what is as due, and prints what is not. */
final class Check {
    private final String name;
    private int passed;
    private int failed;

    Check(String name) {
        this.name = name;
    }

    void due(String call, long got, long want) {
        if (got == want) {
            passed++;
        } else {
            failed++;
            System.out.println(name + ": " + call + " answered " + got + ", due is " + want);
        }
    }

    void holds(String what, boolean isSo) {
        due(what, isSo ? 1 : 0, 1);
    }

    /** The call answers the refusal, and it is counted, once and as no other. */
    void refused(String call, ThrownRosesReturn x, LongSupplier body, int refusal) {
        int[] before = refusals(x);
        due(call, body.getAsLong(), refusal);
        int[] after = refusals(x);
        for (int k = 0; k < after.length; k++) {
            due(call + " counted as " + (-2 - k), after[k], before[k] + (k == -2 - refusal ? 1 : 0));
        }
    }

    /** The call answers NONE (or another number) and is not refused. */
    void unrefused(String call, ThrownRosesReturn x, LongSupplier body, long want) {
        int[] before = refusals(x);
        due(call, body.getAsLong(), want);
        int[] after = refusals(x);
        for (int k = 0; k < after.length; k++) {
            due(call + " not counted as " + (-2 - k), after[k], before[k]);
        }
    }

    private static int[] refusals(ThrownRosesReturn x) {
        int[] counts = new int[5];
        for (int k = 0; k < counts.length; k++) {
            counts[k] = x.status(12 + k);
        }
        return counts;
    }

    /** Prints the closing line; the exit code tells whether all was as due. */
    void close() {
        System.out.println(name + ": " + passed + " as due, " + failed + " not");
        if (failed != 0) {
            System.exit(1);
        }
    }
}
