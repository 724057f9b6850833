import java.util.Arrays;

/** Compares answers with what is due, and tells at the end of a test by the exit code whether all were. */
final class Check {
    private static int asked = 0;
    private static int wrong = 0;

    private Check() {
    }

    static void due(String call, long got, long want) {
        asked++;
        if (got != want) {
            wrong++;
            System.out.println(call + " answered " + got + ", due is " + want);
        }
    }

    static void due(String call, boolean got, boolean want) {
        due(call, got ? 1 : 0, want ? 1 : 0);
    }

    /** For the many calls of made-up runs: the call's text is made only where it is told. */
    static void dueOf(String run, String method, long got, long want, int... arguments) {
        due(got == want ? method : run + method + Arrays.toString(arguments), got, want);
    }

    static void dueOf(String run, String method, boolean got, boolean want, int... arguments) {
        dueOf(run, method, got ? 1 : 0, want ? 1 : 0, arguments);
    }

    static boolean allRight() {
        return wrong == 0;
    }

    /** Several answers of one object at once. */
    static void dueAll(String call, int[] got, int... want) {
        due(call + ": how many", got.length, want.length);
        for (int i = 0; i < Math.min(got.length, want.length); i++) {
            due(call + " [" + i + "]", got[i], want[i]);
        }
    }

    static void finish() {
        System.out.println(asked + " answers, " + wrong + " wrong");
        if (wrong != 0) {
            System.exit(1);
        }
    }
}
