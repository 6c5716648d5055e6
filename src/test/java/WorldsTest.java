/** Promises 13 to 24: WORLDS, what the calls about them answer, what they refuse. */
public final class WorldsTest extends Numbers {
    private WorldsTest() {
    }

    public static void main(String[] args) {
        world();
        gone();
        touchAnswers();
        touchRefused();
        foretell();
        foretellRefused();
        foretellAllKinds();
        state();
        began();
        tape();
        value();
        failed();
        spent();
        many();
        differs();
        differsAmongForty();
        refusedTouchesChangeNothing();
        Due.end();
    }

    /**
     * 0 an OPEN CLASS with a PLAIN FIELD 1, a CONSTANT 2 and a METHOD 3 that marks 33; 1 a CLASS with
     * 0 ABOVE it, its START marks 11; 2 a FACE; 3 a CLASS whose START marks 55 and throws 5; 4 a
     * CLASS whose METHOD 0 throws 6.
     */
    private static StartBench bench() {
        StartBench x = new StartBench();
        x.cls(-1, true);
        x.cls(0, false);
        x.face(true);
        x.cls(-1, false);
        x.cls(-1, false);
        x.field(0, 1, false, 44);
        x.field(0, 2, true, 99);
        x.method(0, 3);
        x.act(0, 3, MARK, 0, 0, 33);
        x.act(1, START, MARK, 0, 0, 11);
        x.act(3, START, MARK, 0, 0, 55);
        x.act(3, START, THROW, 0, 0, 5);
        x.method(4, 0);
        x.act(4, 0, THROW, 0, 0, 6);
        return x;
    }

    private static void world() {
        StartBench x = new StartBench();
        due("13 no types", x.world(), NO);
        due("13 no types, none made", x.told(0, 1), 0);
        x.face(false);
        for (int i = 0; i < 12; i++) {
            due("13 number " + i, x.world(), i);
        }
        due("13 full", x.world(), FULL);
        due("13 still twelve", x.told(0, 1), 12);
        StartBench y = bench();
        y.world();
        y.touch(0, ASK, 1, 0, 0);
        due("13 the second", y.world(), 1);
        due("13 all is untouched", y.many(1, UNTOUCHED), 5);
        due("13 its tape", y.tape(1, -1), 0);
        due("13 its row", y.began(1, -1), 0);
        due("13 the first's", y.began(0, -1), 2);
    }

    private static void gone() {
        StartBench x = bench();
        due("14 there were none", x.gone(), 0);
        x.world();
        x.world();
        x.touch(0, WRITE, 0, 1, 7);
        x.touch(0, CALL, 0, 3, 0);
        x.touch(0, ASK, 3, 0, 0);
        due("14 there were two", x.gone(), 2);
        due("14 there were none then", x.gone(), 0);
        due("14 told", x.told(0, 1), 0);
        due("14 the world is gone", x.state(0, 0), UNKNOWN);
        due("14 the second, too", x.state(1, 0), UNKNOWN);
        due("14 the types stand", x.told(0, 0), 5);
        due("14 types can be told", x.field(4, 1, false, 0), 1);
        due("14 a new one's number", x.world(), 0);
        due("14 it is untouched", x.many(0, UNTOUCHED), 5);
        due("14 its value", x.value(0, 0, 1), 0);
        due("14 its tape", x.tape(0, -1), 0);
        due("14 its place 0", x.tape(0, 0), 0);
        due("14 its row", x.began(0, -1), 0);
        due("14 its row's place 0", x.began(0, 0), NONE);
        due("14 its latest touch", x.failed(0, 0), NONE);
        due("14 its latest touch's other", x.failed(0, 1), NONE);
        for (int what = 0; what < 4; what++) {
            due("14 it spent " + what, x.spent(0, what), 0);
        }
        for (int i = 1; i < 12; i++) {
            x.world();
        }
        due("14 there were twelve", x.gone(), 12);
    }

    private static void touchAnswers() {
        StartBench x = bench();
        x.world();
        due("15 read", x.touch(0, READ, 0, 1, 0), 0);
        due("15 what it reads comes on the tape", x.tape(0, 0), 0);
        due("15 write", x.touch(0, WRITE, 1, 1, 8), 0);
        due("15 read what was written", x.touch(0, READ, 1, 1, 0), 0);
        due("15 it comes on the tape", x.tape(0, 1), 8);
        due("15 call", x.touch(0, CALL, 1, 3, 0), 0);
        due("15 the method's mark", x.tape(0, 2), 33);
        due("15 look", x.touch(0, LOOK, 3, 0, 0), 0);
        due("15 look starts nothing", x.state(0, 3), UNTOUCHED);
        due("15 make", x.touch(0, MAKE, 1, 0, 0), 0);
        due("15 the start's mark", x.tape(0, 3), 11);
        due("15 ask", x.touch(0, ASK, 2, 0, 0), 0);
        due("15 started", x.touch(0, MAKE, 3, 0, 0), TO_STARTED);
        due("15 spoiled", x.touch(0, MAKE, 3, 0, 0), TO_SPOILED);
        due("15 ruled", x.touch(0, MAKE, 0, 0, 0), TO_RULED);
        due("15 thrown", x.touch(0, CALL, 4, 0, 0), TO_THROWN);
        due("15 the tape", x.tape(0, -1), 5);
    }

    private static void touchRefused() {
        StartBench x = bench();
        due("15 no world", x.touch(0, LOOK, 0, 0, 0), UNKNOWN);
        x.world();
        for (int wild : WILD) {
            due("15 world " + wild, x.touch(wild, LOOK, 0, 0, 0), UNKNOWN);
            due("15 type " + wild, x.touch(0, LOOK, wild, 0, 0), UNKNOWN);
            due("15 kind " + wild, x.touch(0, wild, 0, 0, 0), OUTSIDE);
            for (int kind = READ; kind <= CALL; kind++) {
                due("15 kind " + kind + " n " + wild, x.touch(0, kind, 0, wild, 0), OUTSIDE);
            }
            for (int kind = MAKE; kind <= LOOK; kind++) {
                due("15 kind " + kind + " any n " + wild, x.touch(0, kind, 1, wild, wild), 0);
            }
        }
        due("15 world 1", x.touch(1, LOOK, 0, 0, 0), UNKNOWN);
        due("15 type 5", x.touch(0, LOOK, 5, 0, 0), UNKNOWN);
        due("15 mark", x.touch(0, MARK, 0, 0, 0), OUTSIDE);
        due("15 throw", x.touch(0, THROW, 0, 0, 0), OUTSIDE);
        due("15 catch", x.touch(0, CATCH, 0, 0, 0), OUTSIDE);
        due("15 kind 9", x.touch(0, 9, 0, 0, 0), OUTSIDE);
        due("15 n 10", x.touch(0, READ, 0, 10, 0), OUTSIDE);
        due("15 unknown type ahead of kind", x.touch(0, THROW, 5, 0, 0), UNKNOWN);
        due("15 unknown type ahead of n", x.touch(0, READ, 5, 10, 0), UNKNOWN);
        due("15 unknown world ahead of kind", x.touch(1, MARK, 0, 0, 0), UNKNOWN);
    }

    private static void foretell() {
        StartBench x = bench();
        x.world();
        x.touch(0, WRITE, 0, 1, 3);
        x.touch(0, ASK, 3, 0, 0);
        due("16 started above", x.foretell(0, MAKE, 1, 0, 0), 0);
        due("16 write", x.foretell(0, WRITE, 0, 1, 9), 0);
        due("16 read", x.foretell(0, READ, 0, 1, 9), 0);
        due("16 ruled", x.foretell(0, WRITE, 0, 2, 9), TO_RULED);
        due("16 spoiled", x.foretell(0, ASK, 3, 0, 0), TO_SPOILED);
        due("16 thrown", x.foretell(0, CALL, 4, 0, 0), TO_THROWN);
        due("16 state stays", x.state(0, 1), UNTOUCHED);
        due("16 state stays, too", x.state(0, 4), UNTOUCHED);
        due("16 value stays", x.value(0, 0, 1), 3);
        due("16 tape stays", x.tape(0, -1), 1);
        due("16 place 0 stays", x.tape(0, 0), 55);
        due("16 place 1 is none", x.tape(0, 1), 0);
        due("16 row stays", x.began(0, -1), 2);
        due("16 row's place", x.began(0, 2), NONE);
        due("16 failed is the touch's", x.failed(0, 0), F_STARTED);
        due("16 failed's other is the touch's", x.failed(0, 1), 5);
        due("16 spent is the touch's", x.spent(0, 0), 3);
        due("16 spent bodies, too", x.spent(0, 1), 1);
        due("16 spent failures, too", x.spent(0, 2), 2);
        due("16 spent starts, too", x.spent(0, 3), 1);
        due("16 a world no touch was in", x.world(), 1);
        due("16 foretold there", x.foretell(1, ASK, 3, 0, 0), TO_STARTED);
        due("16 twice the same", x.foretell(1, ASK, 3, 0, 0), TO_STARTED);
        due("16 nothing failed there", x.failed(1, 0), NONE);
        due("16 nothing is spent there", x.spent(1, 0), 0);
        due("16 nothing spoiled there", x.state(1, 3), UNTOUCHED);
        due("16 done there", x.touch(1, ASK, 3, 0, 0), TO_STARTED);
        due("16 its mark comes first", x.tape(1, 0), 55);
    }

    private static void foretellRefused() {
        StartBench x = bench();
        due("16 no world", x.foretell(0, LOOK, 0, 0, 0), UNKNOWN);
        x.world();
        for (int wild : WILD) {
            due("16 world " + wild, x.foretell(wild, LOOK, 0, 0, 0), UNKNOWN);
            due("16 type " + wild, x.foretell(0, LOOK, wild, 0, 0), UNKNOWN);
            due("16 kind " + wild, x.foretell(0, wild, 0, 0, 0), OUTSIDE);
            for (int kind = READ; kind <= CALL; kind++) {
                due("16 kind " + kind + " n " + wild, x.foretell(0, kind, 0, wild, 0), OUTSIDE);
            }
        }
        due("16 mark", x.foretell(0, MARK, 0, 0, 0), OUTSIDE);
        due("16 throw", x.foretell(0, THROW, 0, 0, 0), OUTSIDE);
        due("16 n 10", x.foretell(0, CALL, 0, 10, 0), OUTSIDE);
        due("16 unknown ahead of outside", x.foretell(0, THROW, 5, 10, 0), UNKNOWN);
        due("16 make with any n", x.foretell(0, MAKE, 1, 10, 0), 0);
    }

    /** Whatever is foretold is what a touch in a world that stands alike comes to. */
    private static void foretellAllKinds() {
        StartBench x = bench();
        x.world();
        x.world();
        for (int t = 0; t < 5; t++) {
            for (int kind = READ; kind <= LOOK; kind++) {
                for (int n = 0; n < 4; n++) {
                    int told = x.foretell(0, kind, t, n, 1);
                    due("16 kind " + kind + " t " + t + " n " + n, x.touch(0, kind, t, n, 1), told);
                }
            }
        }
        due("16 the other world isn't touched", x.many(1, UNTOUCHED), 5);
    }

    private static void state() {
        StartBench x = bench();
        x.world();
        x.touch(0, MAKE, 1, 0, 0);
        x.touch(0, MAKE, 3, 0, 0);
        int[] states = {DONE, DONE, UNTOUCHED, SPOILED, UNTOUCHED};
        for (int type = 0; type < 5; type++) {
            due("17 type " + type, x.state(0, type), states[type]);
        }
        for (int wild : WILD) {
            due("17 world " + wild, x.state(wild, 0), UNKNOWN);
            due("17 type " + wild, x.state(0, wild), UNKNOWN);
        }
        due("17 world 1", x.state(1, 0), UNKNOWN);
        due("17 type 5", x.state(0, 5), UNKNOWN);
    }

    private static void began() {
        StartBench x = bench();
        x.world();
        due("18 none at first", x.began(0, -1), 0);
        due("18 no place 0 at first", x.began(0, 0), NONE);
        x.touch(0, ASK, 3, 0, 0);
        x.touch(0, MAKE, 1, 0, 0);
        x.touch(0, MAKE, 1, 0, 0);
        x.touch(0, ASK, 3, 0, 0);
        due("18 how many, spoiled ones, too", x.began(0, -1), 3);
        due("18 first", x.began(0, 0), 3);
        due("18 second", x.began(0, 1), 0);
        due("18 third", x.began(0, 2), 1);
        due("18 no more", x.began(0, 3), NONE);
        for (int wild : WILD) {
            due("18 world " + wild, x.began(wild, 0), UNKNOWN);
            if (wild != -1) {
                due("18 place " + wild, x.began(0, wild), NONE);
            }
        }
        due("18 world 1", x.began(1, -1), UNKNOWN);
    }

    private static void tape() {
        StartBench x = bench();
        x.world();
        due("19 none at first", x.tape(0, -1), 0);
        x.touch(0, READ, 0, 2, 0);
        x.touch(0, WRITE, 0, 1, -5);
        x.touch(0, READ, 0, 1, 0);
        x.touch(0, READ, 0, 9, 0);
        due("19 how many", x.tape(0, -1), 2);
        due("19 a constant", x.tape(0, 0), 99);
        due("19 a plain one", x.tape(0, 1), -5);
        due("19 no more", x.tape(0, 2), 0);
        for (int wild : WILD) {
            due("19 world " + wild, x.tape(wild, 0), 0);
            if (wild != -1) {
                due("19 place " + wild, x.tape(0, wild), 0);
            }
        }
        due("19 world 1", x.tape(1, -1), 0);
    }

    private static void value() {
        StartBench x = bench();
        x.world();
        due("20 plain at first", x.value(0, 0, 1), 0);
        due("20 constant", x.value(0, 0, 2), 99);
        due("20 constant of the one above", x.value(0, 1, 2), 99);
        due("20 nothing is started", x.many(0, UNTOUCHED), 5);
        due("20 nothing comes on the tape", x.tape(0, -1), 0);
        x.touch(0, WRITE, 1, 1, Integer.MIN_VALUE);
        due("20 written", x.value(0, 0, 1), Integer.MIN_VALUE);
        due("20 written, from the one below", x.value(0, 1, 1), Integer.MIN_VALUE);
        x.touch(0, WRITE, 0, 1, 2);
        due("20 written again", x.value(0, 1, 1), 2);
        due("20 there is none", x.value(0, 0, 3), 0);
        due("20 a method is none", x.value(0, 4, 0), 0);
        for (int wild : WILD) {
            due("20 world " + wild, x.value(wild, 0, 2), 0);
            due("20 type " + wild, x.value(0, wild, 2), 0);
            due("20 name " + wild, x.value(0, 0, wild), 0);
        }
        due("20 type 5", x.value(0, 5, 2), 0);
        due("20 name 10", x.value(0, 0, 10), 0);
        due("20 world 1", x.value(1, 0, 2), 0);
    }

    private static void failed() {
        StartBench x = bench();
        x.world();
        failedIs("21 at first", x, NONE, NONE);
        x.touch(0, ASK, 3, 0, 0);
        failedIs("21 started", x, F_STARTED, 5);
        x.touch(0, ASK, 3, 0, 0);
        failedIs("21 spoiled", x, F_SPOILED, 3);
        x.touch(0, MAKE, 2, 0, 0);
        failedIs("21 ruled", x, F_RULED, NONE);
        x.touch(0, CALL, 4, 0, 0);
        failedIs("21 thrown", x, 6, NONE);
        x.foretell(0, LOOK, 0, 0, 0);
        failedIs("21 foretell isn't a touch", x, 6, NONE);
        x.touch(0, MAKE, 0, 0, 0);
        x.touch(0, LOOK, 0, 0, 0);
        failedIs("21 none failed", x, NONE, NONE);
        x.world();
        x.touch(1, MAKE, 0, 0, 0);
        failedIs("21 of its own world", x, NONE, NONE);
        due("21 of the other world", x.failed(1, 0), F_RULED);
        for (int wild : WILD) {
            due("21 world " + wild, x.failed(wild, 0), UNKNOWN);
            due("21 i " + wild, x.failed(0, wild), OUTSIDE);
            due("21 unknown ahead " + wild, x.failed(wild, wild), UNKNOWN);
        }
        due("21 i 2", x.failed(0, 2), OUTSIDE);
        due("21 world 2", x.failed(2, 0), UNKNOWN);
    }

    private static void spent() {
        StartBench x = bench();
        x.world();
        spentIs("22 at first", x, 0, 0, 0, 0);
        x.touch(0, LOOK, 0, 0, 0);
        spentIs("22 look", x, 1, 0, 0, 0);
        x.touch(0, MAKE, 1, 0, 0);
        spentIs("22 two starts one behind the other", x, 2, 1, 0, 2);
        x.touch(0, CALL, 0, 3, 0);
        spentIs("22 a method's body", x, 2, 1, 0, 0);
        x.touch(0, ASK, 3, 0, 0);
        spentIs("22 thrown, then started", x, 3, 1, 2, 1);
        x.touch(0, ASK, 3, 0, 0);
        spentIs("22 spoiled", x, 1, 0, 1, 0);
        x.touch(0, READ, 0, 9, 0);
        spentIs("22 ruled", x, 1, 0, 1, 0);
        x.touch(0, CALL, 4, 0, 0);
        spentIs("22 an empty start, then a method", x, 2, 1, 1, 1);
        x.touch(0, READ, 0, 2, 0);
        spentIs("22 read of a constant", x, 1, 0, 0, 0);
        for (int wild : WILD) {
            due("22 world " + wild, x.spent(wild, 0), UNKNOWN);
            due("22 what " + wild, x.spent(0, wild), OUTSIDE);
            due("22 unknown ahead " + wild, x.spent(wild, wild), UNKNOWN);
        }
        due("22 what 4", x.spent(0, 4), OUTSIDE);
        due("22 world 1", x.spent(1, 0), UNKNOWN);
    }

    private static void many() {
        StartBench x = bench();
        x.world();
        x.touch(0, MAKE, 1, 0, 0);
        x.touch(0, MAKE, 3, 0, 0);
        due("23 untouched", x.many(0, UNTOUCHED), 2);
        due("23 under way", x.many(0, UNDER_WAY), 0);
        due("23 done", x.many(0, DONE), 2);
        due("23 spoiled", x.many(0, SPOILED), 1);
        for (int wild : WILD) {
            due("23 world " + wild, x.many(wild, 0), UNKNOWN);
            due("23 state " + wild, x.many(0, wild), OUTSIDE);
            due("23 unknown ahead " + wild, x.many(wild, wild), UNKNOWN);
        }
        due("23 state 4", x.many(0, 4), OUTSIDE);
        due("23 world 1", x.many(1, 0), UNKNOWN);
    }

    private static void differs() {
        StartBench x = bench();
        x.world();
        x.world();
        due("24 both untouched", x.differs(0, 1), NONE);
        due("24 itself", x.differs(1, 1), NONE);
        x.touch(0, ASK, 3, 0, 0);
        due("24 by a state", x.differs(0, 1), 3);
        due("24 the other way", x.differs(1, 0), 3);
        x.touch(0, ASK, 0, 0, 0);
        due("24 the first", x.differs(0, 1), 0);
        x.touch(1, ASK, 0, 0, 0);
        due("24 the next", x.differs(0, 1), 3);
        x.touch(1, ASK, 3, 0, 0);
        x.touch(1, CALL, 0, 3, 0);
        due("24 not by the tape", x.differs(0, 1), NONE);
        x.touch(1, WRITE, 1, 1, 4);
        due("24 by a value, and the TYPE that has it", x.differs(0, 1), 0);
        x.touch(0, MAKE, 1, 0, 0);
        x.touch(0, WRITE, 0, 1, 4);
        due("24 by a state behind it", x.differs(0, 1), 1);
        x.touch(1, MAKE, 1, 0, 0);
        due("24 alike again, by another row", x.differs(0, 1), NONE);
        for (int wild : WILD) {
            due("24 world " + wild, x.differs(wild, 0), UNKNOWN);
            due("24 other " + wild, x.differs(0, wild), UNKNOWN);
        }
        due("24 world 2", x.differs(2, 0), UNKNOWN);
        due("24 other 2", x.differs(0, 2), UNKNOWN);
    }

    private static void differsAmongForty() {
        StartBench x = new StartBench();
        for (int type = 0; type < 40; type++) {
            x.cls(-1, false);
            x.field(type, 0, false, 0);
            x.field(type, 9, false, 0);
        }
        for (int world = 0; world < 3; world++) {
            x.world();
            for (int type = 17; type < 20; type++) {
                x.touch(world, ASK, type, 0, 0);
            }
        }
        x.touch(1, WRITE, 18, 0, 1);
        x.touch(2, WRITE, 18, 9, 1);
        due("24 by the NAME 0", x.differs(0, 1), 18);
        due("24 by the NAME 9", x.differs(2, 0), 18);
        due("24 by both", x.differs(1, 2), 18);
        x.touch(0, WRITE, 18, 0, 1);
        due("24 all 40 alike", x.differs(0, 1), NONE);
        x.touch(0, ASK, 39, 0, 0);
        due("24 the last of 40", x.differs(0, 1), 39);
    }

    private static void refusedTouchesChangeNothing() {
        StartBench x = bench();
        x.world();
        x.touch(0, ASK, 3, 0, 0);
        x.touch(0, THROW, 0, 0, 0);
        x.touch(0, READ, 0, 10, 0);
        x.touch(0, READ, 5, 0, 0);
        x.touch(1, READ, 0, 0, 0);
        failedIs("21 after refused ones", x, F_STARTED, 5);
        spentIs("22 after refused ones", x, 3, 1, 2, 1);
    }
}
