/** What a TOUCH may spend, what of THE TAPE is kept, and the largest descriptions (promises 8 to 12, 15 to 22). */
public final class LimitsTest extends Numbers {
    private LimitsTest() {
    }

    public static void main(String[] args) {
        thousandActions();
        oneActionMore();
        aCatchIsAnActionToo();
        noCatchTakesIt();
        thirtyBodies();
        bodyWithoutEnd();
        bodiesOneBehindTheOther();
        startsOfManyAbove();
        fortyFailures();
        oneFailureMore();
        startedIsOneMore();
        lastFailureOfTheTouch();
        worldIsAsItWasAhead();
        foretellOfFive();
        tapeKeepsThreeHundred();
        tapeOfFiveIsTakenBack();
        manyWaysThroughFaces();
        longestChains();
        Due.end();
    }

    private static StartBench oneClass() {
        StartBench x = new StartBench();
        x.cls(-1, false);
        for (int name = 0; name < 4; name++) {
            x.method(0, name);
        }
        return x;
    }

    private static void overIs(String what, StartBench x, int came) {
        due(what + " comes to 5", came, TO_OVER);
        due(what + ", failed", x.failed(0, 0), NONE);
        due(what + ", failed of", x.failed(0, 1), NONE);
    }

    /** A call of METHOD 2 of TYPE 0 does 1000 ACTIONS, that call among them. */
    private static StartBench benchOfThousand() {
        StartBench x = oneClass();
        acts(x, 12, 0, 1, LOOK, 0, 0);
        acts(x, 12, 0, 0, CALL, 1, 0);
        acts(x, 4, 0, 3, CALL, 1, 0);
        acts(x, 4, 0, 3, LOOK, 0, 0);
        acts(x, 6, 0, 2, CALL, 0, 0);
        acts(x, 1, 0, 2, CALL, 3, 0);
        return x;
    }

    private static void thousandActions() {
        StartBench x = benchOfThousand();
        x.world();
        due("1000 actions", x.touch(0, CALL, 0, 2, 0), 0);
        spentIs("1000 actions", x, 1000, 3, 0, 1);
    }

    private static void oneActionMore() {
        StartBench x = benchOfThousand();
        acts(x, 1, 0, 2, MARK, 0, 0);
        x.world();
        overIs("1001 actions", x, x.touch(0, CALL, 0, 2, 0));
        spentIs("1001 actions", x, 1000, 3, 0, 1);
        due("the start is taken back", x.state(0, 0), UNTOUCHED);
        due("the row, too", x.began(0, -1), 0);
        StartBench y = benchOfThousand();
        acts(y, 1, 0, START, LOOK, 0, 0);
        y.world();
        overIs("one in the start", y, y.touch(0, CALL, 0, 2, 0));
        due("a start alone", y.touch(0, ASK, 0, 0, 0), 0);
        due("it is done already then", y.touch(0, CALL, 0, 2, 0), 0);
        spentIs("it is done already then", y, 1000, 3, 0, 0);
    }

    private static void aCatchIsAnActionToo() {
        StartBench x = benchOfThousand();
        acts(x, 1, 0, 2, CATCH, 0, 3);
        x.world();
        overIs("a catch that does nothing", x, x.touch(0, CALL, 0, 2, 0));
        due("a catch that does nothing, actions", x.spent(0, 0), 1000);
    }

    private static void noCatchTakesIt() {
        StartBench x = benchOfThousand();
        x.cls(-1, false);
        x.act(1, START, CATCH, 0, 0, -1);
        x.act(1, START, CALL, 0, 2, 0);
        x.act(1, START, MARK, 0, 0, 7);
        x.world();
        overIs("within a catch", x, x.touch(0, ASK, 1, 0, 0));
        spentIs("within a catch", x, 1000, 4, 0, 2);
        due("nothing on the tape", x.tape(0, -1), 0);
        due("no start is spoiled", x.many(0, UNTOUCHED), 2);
    }

    /** Each START asks for the next TYPE, the last one's calls a METHOD. */
    private static StartBench benchOfAsks(int starts) {
        StartBench x = new StartBench();
        for (int i = 0; i < starts; i++) {
            x.cls(-1, false);
        }
        for (int i = 0; i + 1 < starts; i++) {
            x.act(i, START, CATCH, 0, 0, -1);
            x.act(i, START, ASK, i + 1, 0, 0);
        }
        x.method(starts - 1, 0);
        x.act(starts - 1, START, CALL, starts - 1, 0, 0);
        return x;
    }

    private static void thirtyBodies() {
        StartBench x = benchOfAsks(29);
        x.world();
        due("30 bodies", x.touch(0, ASK, 0, 0, 0), 0);
        spentIs("30 bodies", x, 58, 30, 0, 29);
        StartBench y = benchOfAsks(30);
        y.world();
        overIs("31 bodies by a method", y, y.touch(0, ASK, 0, 0, 0));
        spentIs("31 bodies by a method", y, 60, 30, 0, 30);
        due("all is untouched", y.many(0, UNTOUCHED), 30);
        due("from the next on", y.touch(0, ASK, 1, 0, 0), 0);
        due("then its call, too", y.touch(0, ASK, 0, 0, 0), 0);
        StartBench z = benchOfAsks(31);
        z.world();
        overIs("31 bodies by a start", z, z.touch(0, ASK, 0, 0, 0));
        spentIs("31 bodies by a start", z, 61, 30, 0, 30);
        due("the row is as it was", z.began(0, -1), 0);
    }

    private static void bodyWithoutEnd() {
        StartBench x = oneClass();
        x.act(0, 0, CALL, 0, 0, 0);
        x.world();
        overIs("a method that calls itself", x, x.touch(0, CALL, 0, 0, 0));
        spentIs("a method that calls itself", x, 31, 30, 0, 1);
        StartBench y = oneClass();
        for (int i = 0; i < 6; i++) {
            y.act(0, 0, CATCH, 0, 0, -1);
            y.act(0, 0, CALL, 0, 0, 0);
        }
        y.world();
        overIs("no catch takes it", y, y.touch(0, CALL, 0, 0, 0));
        spentIs("no catch takes it", y, 61, 30, 0, 1);
    }

    private static void bodiesOneBehindTheOther() {
        StartBench x = oneClass();
        acts(x, 12, 0, 0, CALL, 1, 0);
        acts(x, 12, 0, 1, CALL, 2, 0);
        x.world();
        due("one behind the other", x.touch(0, CALL, 0, 0, 0), 0);
        spentIs("one behind the other", x, 157, 3, 0, 1);
    }

    private static void startsOfManyAbove() {
        StartBench x = new StartBench();
        for (int i = 0; i < 40; i++) {
            x.cls(i - 1, false);
            x.act(i, START, MARK, 0, 0, i);
        }
        x.world();
        due("40 starts", x.touch(0, MAKE, 39, 0, 0), 0);
        spentIs("they aren't within one another", x, 41, 1, 0, 40);
        for (int i = 0; i < 40; i++) {
            due("40 starts, place " + i, x.tape(0, i), i);
            due("40 starts, row " + i, x.began(0, i), i);
        }
        due("40 in the row", x.began(0, -1), 40);
    }

    /** A call of METHOD 2 of TYPE 0 catches 36 FAILURES, and those of METHOD 3, which are none at first. */
    private static StartBench benchOfFailures() {
        StartBench x = oneClass();
        for (int i = 0; i < 6; i++) {
            x.act(0, 0, CATCH, 0, 0, -1);
            x.act(0, 0, THROW, 0, 0, i);
        }
        acts(x, 6, 0, 2, CALL, 0, 0);
        x.act(0, 2, CATCH, 0, 0, -1);
        x.act(0, 2, CALL, 0, 3, 0);
        x.cls(-1, false);
        x.act(1, START, THROW, 0, 0, 9);
        return x;
    }

    private static void caughtThrows(StartBench x, int times) {
        for (int i = 0; i < times; i++) {
            x.act(0, 3, CATCH, 0, 0, -1);
            x.act(0, 3, THROW, 0, 0, 1);
        }
    }

    private static void fortyFailures() {
        StartBench x = benchOfFailures();
        caughtThrows(x, 4);
        x.world();
        due("40 failures", x.touch(0, CALL, 0, 2, 0), 0);
        spentIs("40 failures", x, 89, 2, 40, 1);
        due("40 on the tape", x.tape(0, -1), 40);
    }

    private static void oneFailureMore() {
        StartBench x = benchOfFailures();
        caughtThrows(x, 5);
        x.world();
        overIs("41 failures", x, x.touch(0, CALL, 0, 2, 0));
        spentIs("41 failures", x, 91, 2, 41, 1);
        due("nothing on the tape", x.tape(0, -1), 0);
    }

    private static void startedIsOneMore() {
        StartBench x = benchOfFailures();
        caughtThrows(x, 2);
        x.act(0, 3, ASK, 1, 0, 0);
        x.world();
        due("40 with a start", x.touch(0, CALL, 0, 2, 0), 0);
        spentIs("40 with a start", x, 87, 3, 40, 2);
        due("40 with a start, the last caught", x.tape(0, 38), 1020);
        StartBench y = benchOfFailures();
        caughtThrows(y, 3);
        y.act(0, 3, ASK, 1, 0, 0);
        y.world();
        overIs("41 with a start", y, y.touch(0, CALL, 0, 2, 0));
        spentIs("41 with a start", y, 89, 3, 41, 2);
        due("41 with a start, not spoiled", y.state(0, 1), UNTOUCHED);
    }

    private static void lastFailureOfTheTouch() {
        StartBench x = benchOfFailures();
        caughtThrows(x, 4);
        x.act(0, 2, MARK, 0, 0, 1);
        x.act(0, 2, MAKE, 1, 0, 0);
        x.world();
        x.touch(0, ASK, 1, 0, 0);
        overIs("the 41st isn't caught", x, x.touch(0, CALL, 0, 2, 0));
        StartBench y = benchOfFailures();
        caughtThrows(y, 3);
        y.act(0, 2, MAKE, 1, 0, 0);
        y.world();
        y.touch(0, ASK, 1, 0, 0);
        due("the 40th isn't caught", y.touch(0, CALL, 0, 2, 0), TO_SPOILED);
        due("the 40th is SPOILED's", y.failed(0, 1), 1);
        due("40 failures", y.spent(0, 2), 40);
    }

    private static void worldIsAsItWasAhead() {
        StartBench x = oneClass();
        x.field(0, 5, false, 0);
        x.cls(-1, false);
        x.cls(-1, false);
        x.act(0, 0, MARK, 0, 0, 8);
        x.act(0, 0, WRITE, 0, 5, 8);
        x.act(0, 0, ASK, 1, 0, 0);
        x.act(0, 0, CATCH, 0, 0, -1);
        x.act(0, 0, ASK, 2, 0, 0);
        x.act(0, 0, CALL, 0, 0, 0);
        x.act(2, START, THROW, 0, 0, 0);
        x.act(0, 1, MARK, 0, 0, 4);
        x.world();
        x.world();
        for (int world = 0; world < 2; world++) {
            x.touch(world, WRITE, 0, 5, 3);
            x.touch(world, CALL, 0, 1, 0);
        }
        due("over", x.touch(0, CALL, 0, 0, 0), TO_OVER);
        due("as the other world", x.differs(0, 1), NONE);
        due("the value", x.value(0, 0, 5), 3);
        due("the tape", x.tape(0, -1), 1);
        due("the tape's place", x.tape(0, 1), 0);
        due("the row", x.began(0, -1), 1);
        due("the row's place", x.began(0, 1), NONE);
        due("a state", x.state(0, 2), UNTOUCHED);
        due("goes on", x.touch(0, CALL, 0, 1, 0), 0);
        due("goes on, the tape", x.tape(0, 1), 4);
    }

    private static void foretellOfFive() {
        StartBench x = benchOfThousand();
        acts(x, 1, 0, 2, LOOK, 0, 0);
        x.world();
        x.touch(0, MAKE, 0, 0, 0);
        due("foretold", x.foretell(0, CALL, 0, 2, 0), TO_OVER);
        due("a smaller one", x.foretell(0, CALL, 0, 3, 0), 0);
        spentIs("nothing is spent", x, 1, 1, 0, 1);
        due("no state is lost", x.state(0, 0), DONE);
    }

    private static void tapeKeepsThreeHundred() {
        StartBench x = oneClass();
        for (int i = 0; i < 12; i++) {
            x.act(0, 0, MARK, 0, 0, 101 + i);
        }
        x.field(0, 0, true, 55);
        x.world();
        for (int i = 0; i < 24; i++) {
            x.touch(0, CALL, 0, 0, 0);
        }
        due("288", x.tape(0, -1), 288);
        due("the last one", x.tape(0, 287), 112);
        for (int i = 0; i < 11; i++) {
            x.touch(0, READ, 0, 0, 0);
        }
        due("299", x.tape(0, -1), 299);
        x.touch(0, CALL, 0, 0, 0);
        due("311", x.tape(0, -1), 311);
        due("the 299th", x.tape(0, 298), 55);
        due("the 300th", x.tape(0, 299), 101);
        due("the 301st isn't kept", x.tape(0, 300), 0);
        due("the 311th isn't kept", x.tape(0, 310), 0);
        due("the 312th isn't there", x.tape(0, 311), 0);
        due("the first", x.tape(0, 0), 101);
    }

    private static void tapeOfFiveIsTakenBack() {
        StartBench x = oneClass();
        x.act(0, 0, MARK, 0, 0, 7);
        x.act(0, 0, CALL, 0, 0, 0);
        x.act(0, 1, MARK, 0, 0, 5);
        x.world();
        x.touch(0, CALL, 0, 0, 0);
        x.foretell(0, CALL, 0, 1, 0);
        due("none on the tape", x.tape(0, -1), 0);
        due("place 0 is none", x.tape(0, 0), 0);
        x.touch(0, CALL, 0, 1, 0);
        due("one on the tape", x.tape(0, -1), 1);
        due("place 0", x.tape(0, 0), 5);
        due("place 1 is none", x.tape(0, 1), 0);
    }

    /** Nine rows of four FACES, each under all of the next row: 4 to the 9th ways from the first to the last. */
    private static void manyWaysThroughFaces() {
        StartBench x = new StartBench();
        for (int i = 0; i < 36; i++) {
            x.face(i >= 16);
        }
        for (int i = 0; i < 32; i++) {
            for (int j = 0; j < 4; j++) {
                x.under(i, (i / 4 + 1) * 4 + j);
            }
        }
        x.cls(-1, false);
        for (int j = 0; j < 4; j++) {
            x.under(36, j);
        }
        x.field(35, 9, false, 0);
        due("found, many ways", x.found(36, 9, false), 35);
        due("not found, many ways", x.found(36, 8, false), NONE);
        due("below, many ways", x.below(36, 35), 1);
        due("told, many ways", x.told(35, 9), 33);
        for (int i = 0; i < 20; i++) {
            due("asks, many ways " + i, x.asks(36, i), lastRowsFirst(i));
        }
        due("asks, no more", x.asks(36, 20), NONE);
        due("round, many ways", x.round(0), NONE);
        x.world();
        for (int i = 0; i < 50; i++) {
            due("read, many ways", x.touch(0, READ, 36, 9, 0), 0);
            due("read of none, many ways", x.touch(0, READ, 36, 8, 0), TO_RULED);
            due("value, many ways", x.value(0, 36, 9), 0);
        }
        due("make, many ways", x.touch(0, MAKE, 36, 0, 0), 0);
        due("the owner began first", x.began(0, 0), 35);
        due("then the others of its row", x.began(0, 1), 32);
        for (int i = 4; i < 20; i++) {
            due("then the other rows " + i, x.began(0, i), lastRowsFirst(i));
        }
        due("then the class", x.began(0, 20), 36);
        due("no more", x.began(0, -1), 21);
        due("round in a world", x.round(0), NONE);
    }

    private static int lastRowsFirst(int i) {
        return 32 - i / 4 * 4 + i % 4;
    }

    private static void longestChains() {
        StartBench x = new StartBench();
        x.face(true);
        for (int i = 1; i < 39; i++) {
            x.face(true);
            x.under(i, i - 1);
        }
        x.cls(-1, false);
        x.under(39, 38);
        x.field(0, 0, true, 17);
        due("found by 39 faces", x.found(39, 0, false), 0);
        due("told by 39 faces", x.told(0, 9), 39);
        for (int i = 0; i < 39; i++) {
            due("asks " + i, x.asks(39, i), i);
        }
        due("asks, no more", x.asks(39, 39), NONE);
        x.world();
        due("make under 39 faces", x.touch(0, MAKE, 39, 0, 0), 0);
        due("40 began", x.began(0, -1), 40);
        due("the first", x.began(0, 0), 0);
        due("the last", x.began(0, 39), 39);
        StartBench y = new StartBench();
        for (int i = 0; i < 40; i++) {
            y.cls(i - 1, false);
        }
        y.method(0, 0);
        y.field(0, 0, false, 0);
        due("method by 39 classes", y.found(39, 0, true), 0);
        due("field by 39 classes", y.found(39, 0, false), 0);
        for (int i = 0; i < 40; i++) {
            y.act(i, START, ASK, (i + 1) % 40, 0, 0);
        }
        due("the round of all", y.round(39), 39);
        due("no more", y.round(40), NONE);
        y.world();
        due("40 starts that ask for the next below", y.touch(0, ASK, 0, 0, 0), TO_OVER);
        due("their bodies", y.spent(0, 1), 30);
        due("40 starts from the lowest", y.touch(0, ASK, 39, 0, 0), 0);
        due("their bodies from the lowest", y.spent(0, 1), 1);
    }
}
