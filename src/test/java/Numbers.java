/** The document's numbers by name, for tests to extend. */
abstract class Numbers {
    static final int NONE = -6, UNKNOWN = -1, OUTSIDE = -2, STATE = -3, FULL = -4, NO = -5;
    static final int MARK = 0, READ = 1, WRITE = 2, CALL = 3, MAKE = 4, ASK = 5, LOOK = 6, THROW = 7, CATCH = 8;
    static final int START = -1;
    static final int UNTOUCHED = 0, UNDER_WAY = 1, DONE = 2, SPOILED = 3;
    static final int F_STARTED = 20, F_SPOILED = 21, F_RULED = 22;
    static final int TO_STARTED = 1, TO_SPOILED = 2, TO_RULED = 3, TO_THROWN = 4, TO_OVER = 5;

    /** Numbers that are no TYPE, WORLD or NAME of a bench with a few of each. */
    static final int[] WILD = {-1, -2, -6, 40, 64, 1000, Integer.MIN_VALUE, Integer.MAX_VALUE};

    static void due(String call, long got, long want) {
        Due.due(call, got, want);
    }
}
