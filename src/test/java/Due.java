/** Counts the answers that were looked at, and prints those that are not as due. */
final class Due {
    private static int looked;
    private static int wrong;

    private Due() {
    }

    static void due(String call, long got, long want) {
        looked++;
        if (got != want) {
            wrong++;
            System.out.println(call + " answered " + got + ", due is " + want);
        }
    }

    static void isTrue(String what, boolean holds) {
        due(what, holds ? 1 : 0, 1);
    }

    /** Ends a test's main: by exit code 1 if an answer was wrong. */
    static void end() {
        System.out.println(looked + " answers looked at, " + wrong + " of them wrong");
        if (wrong > 0 || looked == 0) {
            System.exit(1);
        }
    }
}
