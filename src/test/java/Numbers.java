/** The document's numbers by name, and looks at several answers at once, for tests to extend. */
abstract class Numbers {
    static final int NONE = -6, UNKNOWN = -1, OUTSIDE = -2, STATE = -3, FULL = -4, NO = -5;
    static final int MARK = 0, READ = 1, WRITE = 2, CALL = 3, MAKE = 4, ASK = 5, LOOK = 6, THROW = 7, CATCH = 8;
    static final int START = -1;
    static final int UNTOUCHED = 0, UNDER_WAY = 1, DONE = 2, SPOILED = 3;
    static final int F_STARTED = 20, F_SPOILED = 21, F_RULED = 22;
    static final int TO_STARTED = 1, TO_SPOILED = 2, TO_RULED = 3, TO_THROWN = 4, TO_OVER = 5;
    static final int LEAST = Integer.MIN_VALUE, MOST = Integer.MAX_VALUE;

    /** Numbers that are no TYPE, WORLD or NAME of a bench with a few of each. */
    static final int[] WILD = {-1, -2, -6, 40, 64, 300, 1000, LEAST, LEAST + 1, MOST - 1, MOST};

    static void due(String call, long got, long want) {
        Due.due(call, got, want);
    }

    static StartBench classes(int many) {
        StartBench x = new StartBench();
        for (int i = 0; i < many; i++) {
            x.cls(-1, false);
        }
        return x;
    }

    /** Puts one and the same ACTION, of a TYPE on itself, several times behind a BODY. */
    static void acts(StartBench x, int times, int type, int method, int kind, int n, int v) {
        for (int i = 0; i < times; i++) {
            x.act(type, method, kind, type, n, v);
        }
    }

    static void rowIs(String what, StartBench x, int world, int... types) {
        due(what + ", how many began", x.began(world, -1), types.length);
        for (int i = 0; i < types.length; i++) {
            due(what + ", began " + i, x.began(world, i), types[i]);
        }
        due(what + ", began no more", x.began(world, types.length), NONE);
    }

    static void tapeIs(String what, StartBench x, int world, int... places) {
        due(what + ", how many on the tape", x.tape(world, -1), places.length);
        for (int i = 0; i < places.length; i++) {
            due(what + ", place " + i, x.tape(world, i), places[i]);
        }
        due(what + ", no more on the tape", x.tape(world, places.length), 0);
    }

    static void statesAre(String what, StartBench x, int world, int... states) {
        for (int i = 0; i < states.length; i++) {
            due(what + ", state of " + i, x.state(world, i), states[i]);
        }
    }

    /** Of the latest touch in WORLD 0. */
    static void failedIs(String what, StartBench x, int failure, int of) {
        due(what + ", failed", x.failed(0, 0), failure);
        due(what + ", failed of", x.failed(0, 1), of);
    }

    /** Of the latest touch in WORLD 0: ACTIONS, BODIES, FAILURES, STARTS. */
    static void spentIs(String what, StartBench x, int... amounts) {
        for (int i = 0; i < 4; i++) {
            due(what + ", spent " + i, x.spent(0, i), amounts[i]);
        }
    }

    static void asksAre(String what, StartBench x, int type, int... types) {
        for (int i = 0; i < types.length; i++) {
            due(what + ", asks " + i, x.asks(type, i), types[i]);
        }
        due(what + ", asks no more", x.asks(type, types.length), NONE);
        due(what + ", asks none ahead", x.asks(type, -1), NONE);
    }
}
