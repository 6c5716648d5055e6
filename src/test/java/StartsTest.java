/** The parts 2 and 3 of the terms: what starts, in which order, what fails, what is spoiled by that (promises 15, 17 to 22). */
public final class StartsTest extends Numbers {
    private StartsTest() {
    }

    public static void main(String[] args) {
        orderOfClassesAndFaces();
        facesThatAreDoneAlready();
        faceStartsNoOthers();
        underWayIsLeftAlone();
        recursionSeesHalfStartedValues();
        ownerOfFieldIsStarted();
        ownerOfMethodIsStarted();
        constantsStartNothing();
        ruledAheadOfAllElse();
        ruledInAStart();
        thrownInAStart();
        thrownByACalledMethodInAStart();
        failingAbove();
        failingFace();
        startedPassesOn();
        spoiledNamesItsType();
        spoiledAboveSpoilsBelow();
        failedCallBody();
        bodyEndsWhereItFails();
        writeBehindFailedStart();
        catches();
        catchesInARow();
        catchWithoutNext();
        catchOfEachNumber();
        caughtStartStaysSpoiled();
        Due.end();
    }

    private static void orderOfClassesAndFaces() {
        StartBench x = new StartBench();
        x.cls(-1, true);
        x.cls(0, false);
        for (int i = 2; i < 9; i++) {
            x.face(i != 3);
        }
        x.under(0, 8);
        x.under(1, 2);
        x.under(1, 3);
        x.under(1, 7);
        x.under(3, 4);
        x.under(3, 5);
        x.under(4, 6);
        x.under(7, 6);
        x.under(5, 2);
        x.world();
        due("order", x.touch(0, MAKE, 1, 0, 0), 0);
        rowIs("order", x, 0, 8, 0, 2, 6, 4, 5, 7, 1);
        statesAre("order", x, 0, DONE, DONE, DONE, UNTOUCHED, DONE, DONE, DONE, DONE, DONE);
        spentIs("order", x, 1, 1, 0, 8);
    }

    private static void facesThatAreDoneAlready() {
        StartBench x = new StartBench();
        x.cls(-1, false);
        x.cls(0, false);
        x.face(true);
        x.face(true);
        x.under(0, 2);
        x.under(1, 3);
        x.under(1, 2);
        x.world();
        x.touch(0, ASK, 3, 0, 0);
        x.touch(0, ASK, 0, 0, 0);
        x.touch(0, ASK, 1, 0, 0);
        rowIs("each once", x, 0, 3, 2, 0, 1);
        due("the last one's starts", x.spent(0, 3), 1);
    }

    private static void faceStartsNoOthers() {
        StartBench x = new StartBench();
        x.face(true);
        x.face(true);
        x.face(false);
        x.under(1, 0);
        x.under(2, 1);
        x.world();
        x.touch(0, ASK, 1, 0, 0);
        rowIs("a face with a default", x, 0, 1);
        x.touch(0, ASK, 2, 0, 0);
        rowIs("a face without, asked itself", x, 0, 1, 2);
        due("the upmost", x.state(0, 0), UNTOUCHED);
    }

    private static void underWayIsLeftAlone() {
        StartBench x = classes(3);
        x.act(0, START, ASK, 1, 0, 0);
        x.act(0, START, MARK, 0, 0, 1);
        x.act(1, START, MAKE, 0, 0, 0);
        x.act(1, START, ASK, 1, 0, 0);
        x.act(1, START, MARK, 0, 0, 2);
        x.world();
        due("a round", x.touch(0, ASK, 0, 0, 0), 0);
        rowIs("a round", x, 0, 0, 1);
        tapeIs("a round", x, 0, 2, 1);
        spentIs("a round", x, 6, 2, 0, 2);
        x.world();
        x.touch(1, ASK, 1, 0, 0);
        rowIs("the other way round", x, 1, 1, 0);
        tapeIs("the other way round", x, 1, 1, 2);
    }

    /** As in Java: a class below is asked for in the START of the one above it, which is UNDER WAY. */
    private static void recursionSeesHalfStartedValues() {
        StartBench x = new StartBench();
        x.cls(-1, false);
        x.cls(0, false);
        x.field(0, 0, false, 0);
        x.act(0, START, ASK, 1, 0, 0);
        x.act(0, START, WRITE, 0, 0, 9);
        x.act(1, START, READ, 0, 0, 0);
        x.world();
        x.touch(0, ASK, 0, 0, 0);
        rowIs("from above", x, 0, 0, 1);
        tapeIs("from above", x, 0, 0);
        x.world();
        x.touch(1, ASK, 1, 0, 0);
        rowIs("from below: it is UNDER WAY ahead of the one above", x, 1, 0, 1);
        tapeIs("from below", x, 1, 9);
        due("value", x.value(1, 1, 0), 9);
    }

    private static void ownerOfFieldIsStarted() {
        StartBench x = new StartBench();
        x.cls(-1, false);
        x.cls(0, false);
        x.face(false);
        x.face(true);
        x.under(1, 3);
        x.under(3, 2);
        x.field(0, 0, false, 0);
        x.field(2, 1, false, 0);
        x.act(0, START, WRITE, 0, 0, 4);
        x.world();
        x.touch(0, READ, 1, 0, 0);
        rowIs("read", x, 0, 0);
        tapeIs("read is behind the start", x, 0, 4);
        x.touch(0, WRITE, 1, 1, 6);
        rowIs("write into a face's", x, 0, 0, 2);
        due("written", x.value(0, 1, 1), 6);
        due("the class isn't started", x.state(0, 1), UNTOUCHED);
        x.world();
        x.touch(1, WRITE, 0, 0, 5);
        due("write is behind the start", x.value(1, 0, 0), 5);
    }

    private static void ownerOfMethodIsStarted() {
        StartBench x = new StartBench();
        x.cls(-1, true);
        x.cls(0, false);
        x.face(true);
        x.method(0, 0);
        x.method(2, 0);
        x.act(0, START, MARK, 0, 0, 1);
        x.act(0, 0, MARK, 0, 0, 2);
        x.act(2, START, MARK, 0, 0, 3);
        x.act(2, 0, MARK, 0, 0, 4);
        x.world();
        due("an OPEN CLASS's method can be called", x.touch(0, CALL, 1, 0, 0), 0);
        tapeIs("call", x, 0, 1, 2);
        due("a FACE's method can be called", x.touch(0, CALL, 2, 0, 0), 0);
        tapeIs("call of a face's", x, 0, 1, 2, 3, 4);
        due("the class itself isn't started", x.state(0, 1), UNTOUCHED);
    }

    private static void constantsStartNothing() {
        StartBench x = new StartBench();
        x.cls(-1, false);
        x.face(true);
        x.cls(0, false);
        x.under(2, 1);
        x.field(0, 0, true, 12);
        x.field(1, 1, true, 13);
        x.act(0, START, THROW, 0, 0, 0);
        x.world();
        due("read of a constant", x.touch(0, READ, 2, 0, 0), 0);
        due("read of a face's", x.touch(0, READ, 2, 1, 0), 0);
        tapeIs("constants", x, 0, 12, 13);
        due("nothing began", x.began(0, -1), 0);
        x.touch(0, ASK, 0, 0, 0);
        due("read of a spoiled one's", x.touch(0, READ, 0, 0, 0), 0);
        due("write starts nothing", x.touch(0, WRITE, 2, 1, 0), TO_RULED);
        due("still untouched", x.state(0, 1), UNTOUCHED);
    }

    private static void ruledAheadOfAllElse() {
        StartBench x = new StartBench();
        x.cls(-1, true);
        x.face(true);
        x.cls(-1, false);
        x.field(2, 0, true, 1);
        x.act(2, START, THROW, 0, 0, 3);
        x.method(1, 4);
        x.cls(-1, false);
        x.under(3, 1);
        x.world();
        int[][] ruled = {{READ, 0, 5}, {WRITE, 0, 5}, {CALL, 0, 5}, {WRITE, 2, 0}, {MAKE, 0, 0}, {MAKE, 1, 0},
            {CALL, 3, 4}};
        for (int[] one : ruled) {
            String what = "kind " + one[0] + " of " + one[1];
            due(what, x.touch(0, one[0], one[1], one[2], 0), TO_RULED);
            failedIs(what, x, F_RULED, NONE);
            spentIs(what, x, 1, 0, 1, 0);
            due(what + " starts nothing", x.many(0, UNTOUCHED), 4);
        }
        x.touch(0, ASK, 2, 0, 0);
        due("ruled ahead of spoiled", x.touch(0, WRITE, 2, 0, 0), TO_RULED);
        due("value stays", x.value(0, 2, 0), 1);
    }

    private static void ruledInAStart() {
        StartBench x = classes(2);
        x.cls(-1, true);
        x.act(0, START, MARK, 0, 0, 1);
        x.act(0, START, MAKE, 2, 0, 0);
        x.act(0, START, MARK, 0, 0, 2);
        x.act(1, START, ASK, 0, 0, 0);
        x.world();
        due("ruled", x.touch(0, ASK, 1, 0, 0), TO_RULED);
        failedIs("ruled", x, F_RULED, NONE);
        statesAre("ruled", x, 0, SPOILED, SPOILED, UNTOUCHED);
        spentIs("it is the same failure", x, 4, 2, 1, 2);
        tapeIs("ruled", x, 0, 1);
    }

    private static void thrownInAStart() {
        StartBench x = classes(1);
        x.act(0, START, MARK, 0, 0, 1);
        x.act(0, START, THROW, 0, 0, 0);
        x.act(0, START, MARK, 0, 0, 2);
        x.world();
        due("thrown", x.touch(0, MAKE, 0, 0, 0), TO_STARTED);
        failedIs("thrown", x, F_STARTED, 0);
        tapeIs("thrown", x, 0, 1);
        rowIs("thrown", x, 0, 0);
        spentIs("thrown", x, 3, 1, 2, 1);
    }

    private static void thrownByACalledMethodInAStart() {
        StartBench x = classes(2);
        x.method(1, 0);
        x.act(1, 0, THROW, 0, 0, 19);
        x.act(0, START, CALL, 1, 0, 0);
        x.world();
        due("by a method", x.touch(0, ASK, 0, 0, 0), TO_STARTED);
        failedIs("by a method", x, F_STARTED, 19);
        statesAre("the method's type is done", x, 0, SPOILED, DONE);
        spentIs("by a method", x, 3, 2, 2, 2);
    }

    private static void failingAbove() {
        StartBench x = new StartBench();
        x.cls(-1, false);
        x.cls(0, false);
        x.face(true);
        x.under(1, 2);
        x.act(0, START, THROW, 0, 0, 7);
        x.world();
        due("above", x.touch(0, MAKE, 1, 0, 0), TO_STARTED);
        failedIs("above", x, F_STARTED, 7);
        statesAre("the face isn't come to", x, 0, SPOILED, SPOILED, UNTOUCHED);
        rowIs("above", x, 0, 0);
        spentIs("above: STARTED once", x, 2, 1, 2, 1);
    }

    private static void failingFace() {
        StartBench x = new StartBench();
        x.cls(-1, false);
        x.cls(0, false);
        x.face(true);
        x.face(true);
        x.face(true);
        x.under(1, 3);
        x.under(3, 2);
        x.under(1, 4);
        x.act(2, START, THROW, 0, 0, 8);
        x.world();
        due("a face's face", x.touch(0, ASK, 1, 0, 0), TO_STARTED);
        statesAre("a face's face", x, 0, DONE, SPOILED, SPOILED, UNTOUCHED, UNTOUCHED);
        rowIs("a face's face", x, 0, 0, 2);
        due("the face that is under it", x.touch(0, ASK, 3, 0, 0), 0);
        due("the class is spoiled", x.touch(0, ASK, 1, 0, 0), TO_SPOILED);
        failedIs("the class is spoiled", x, F_SPOILED, 1);
    }

    private static void startedPassesOn() {
        StartBench x = classes(3);
        x.act(0, START, ASK, 1, 0, 0);
        x.act(1, START, ASK, 2, 0, 0);
        x.act(2, START, THROW, 0, 0, 4);
        x.world();
        due("passes on", x.touch(0, ASK, 0, 0, 0), TO_STARTED);
        failedIs("passes on", x, F_STARTED, 4);
        statesAre("passes on", x, 0, SPOILED, SPOILED, SPOILED);
        spentIs("two failures in all", x, 4, 3, 2, 3);
    }

    private static void spoiledNamesItsType() {
        StartBench x = classes(3);
        x.act(2, START, THROW, 0, 0, 4);
        x.act(0, START, ASK, 1, 0, 0);
        x.act(1, START, ASK, 2, 0, 0);
        x.world();
        x.touch(0, ASK, 2, 0, 0);
        due("passes on", x.touch(0, ASK, 0, 0, 0), TO_SPOILED);
        failedIs("the one that was spoiled", x, F_SPOILED, 2);
        statesAre("all are spoiled", x, 0, SPOILED, SPOILED, SPOILED);
        due("again", x.touch(0, ASK, 0, 0, 0), TO_SPOILED);
        failedIs("now itself", x, F_SPOILED, 0);
        rowIs("again", x, 0, 2, 0, 1);
    }

    private static void spoiledAboveSpoilsBelow() {
        StartBench x = new StartBench();
        x.cls(-1, false);
        x.cls(0, false);
        x.act(0, START, THROW, 0, 0, 4);
        x.world();
        x.touch(0, ASK, 0, 0, 0);
        due("below", x.touch(0, ASK, 1, 0, 0), TO_SPOILED);
        failedIs("below", x, F_SPOILED, 0);
        spentIs("below", x, 1, 0, 1, 0);
        due("below is spoiled", x.state(0, 1), SPOILED);
        rowIs("its body didn't begin", x, 0, 0);
    }

    private static void failedCallBody() {
        StartBench x = classes(2);
        x.method(0, 0);
        x.method(1, 0);
        x.act(0, 0, CALL, 1, 0, 0);
        x.act(0, 0, MARK, 0, 0, 5);
        x.act(1, 0, THROW, 0, 0, 2);
        x.world();
        due("through two methods", x.touch(0, CALL, 0, 0, 0), TO_THROWN);
        failedIs("through two methods", x, 2, NONE);
        statesAre("through two methods", x, 0, DONE, DONE);
        spentIs("through two methods", x, 3, 2, 1, 2);
        due("no mark", x.tape(0, -1), 0);
    }

    private static void bodyEndsWhereItFails() {
        StartBench x = classes(2);
        x.act(0, START, MARK, 0, 0, 1);
        x.act(0, START, READ, 0, 0, 0);
        x.act(0, START, ASK, 1, 0, 0);
        x.world();
        due("ends", x.touch(0, ASK, 0, 0, 0), TO_RULED);
        due("what is behind isn't done", x.state(0, 1), UNTOUCHED);
        due("actions", x.spent(0, 0), 3);
    }

    private static void writeBehindFailedStart() {
        StartBench x = classes(1);
        x.field(0, 0, false, 0);
        x.method(0, 0);
        x.act(0, 0, MARK, 0, 0, 1);
        x.act(0, START, WRITE, 0, 0, 3);
        x.act(0, START, THROW, 0, 0, 0);
        x.world();
        due("write", x.touch(0, WRITE, 0, 0, 5), TO_STARTED);
        due("what the start wrote stays", x.value(0, 0, 0), 3);
        due("read", x.touch(0, READ, 0, 0, 0), TO_SPOILED);
        due("call", x.touch(0, CALL, 0, 0, 0), TO_SPOILED);
        due("nothing on the tape", x.tape(0, -1), 0);
    }

    private static void catches() {
        StartBench x = classes(2);
        x.act(0, START, CATCH, 0, 0, 5);
        x.act(0, START, THROW, 0, 0, 5);
        x.act(0, START, MARK, 0, 0, 1);
        x.act(0, START, CATCH, 0, 0, -1);
        x.act(0, START, MARK, 0, 0, 2);
        x.act(0, START, CATCH, 0, 0, 5);
        x.act(0, START, THROW, 0, 0, 6);
        x.act(0, START, MARK, 0, 0, 3);
        x.act(1, START, CATCH, 0, 0, -1);
        x.act(1, START, ASK, 0, 0, 0);
        x.act(1, START, CATCH, 0, 0, -1);
        x.act(1, START, ASK, 0, 0, 0);
        x.world();
        due("caught", x.touch(0, ASK, 1, 0, 0), 0);
        tapeIs("caught", x, 0, 1005, 1, 2, 1020, 1021);
        spentIs("caught", x, 12, 2, 4, 2);
        failedIs("caught", x, NONE, NONE);
        statesAre("caught", x, 0, SPOILED, DONE);
    }

    private static void catchesInARow() {
        StartBench x = classes(4);
        x.act(0, START, CATCH, 0, 0, 5);
        x.act(0, START, CATCH, 0, 0, 6);
        x.act(0, START, CATCH, 0, 0, 7);
        x.act(0, START, THROW, 0, 0, 5);
        x.act(0, START, MARK, 0, 0, 1);
        x.act(1, START, CATCH, 0, 0, 5);
        x.act(1, START, CATCH, 0, 0, -1);
        x.act(1, START, THROW, 0, 0, 5);
        x.act(1, START, THROW, 0, 0, 5);
        x.act(2, START, CATCH, 0, 0, 5);
        x.act(2, START, CATCH, 0, 0, 6);
        x.act(2, START, THROW, 0, 0, 7);
        x.act(3, START, CATCH, 0, 0, 5);
        x.act(3, START, CATCH, 0, 0, 6);
        x.act(3, START, MARK, 0, 0, 3);
        x.act(3, START, THROW, 0, 0, 5);
        x.world();
        due("the first of three takes it", x.touch(0, ASK, 0, 0, 0), 0);
        spentIs("the first of three takes it", x, 6, 1, 1, 1);
        tapeIs("the first of three takes it", x, 0, 1005, 1);
        due("one of two takes it, the next throw isn't caught", x.touch(0, ASK, 1, 0, 0), TO_STARTED);
        tapeIs("once on the tape", x, 0, 1005, 1, 1005);
        spentIs("one of two takes it", x, 5, 1, 3, 1);
        due("none takes it", x.touch(0, ASK, 2, 0, 0), TO_STARTED);
        failedIs("none takes it", x, F_STARTED, 7);
        due("spent on a mark", x.touch(0, ASK, 3, 0, 0), TO_STARTED);
        tapeIs("spent on a mark", x, 0, 1005, 1, 1005, 3);
    }

    private static void catchWithoutNext() {
        StartBench x = classes(2);
        x.method(1, 0);
        x.act(0, START, CATCH, 0, 0, -1);
        x.act(1, START, CATCH, 0, 0, -1);
        x.act(1, START, CATCH, 0, 0, 3);
        x.act(1, 0, CATCH, 0, 0, 3);
        x.world();
        due("does nothing", x.touch(0, ASK, 0, 0, 0), 0);
        spentIs("is an action", x, 2, 1, 0, 1);
        due("two of them", x.touch(0, CALL, 1, 0, 0), 0);
        spentIs("two of them, then one", x, 4, 1, 0, 1);
        due("nothing on the tape", x.tape(0, -1), 0);
        statesAre("done", x, 0, DONE, DONE);
    }

    private static void catchOfEachNumber() {
        for (int v = -1; v <= 22; v++) {
            for (int thrown = 0; thrown <= 22; thrown++) {
                StartBench x = classes(3);
                x.act(0, START, THROW, 0, 0, 1);
                x.act(1, START, THROW, 0, 0, 1);
                x.act(2, START, CATCH, 0, 0, v);
                if (thrown < F_STARTED) {
                    x.act(2, START, THROW, 0, 0, thrown);
                } else if (thrown == F_STARTED) {
                    x.act(2, START, ASK, 0, 0, 0);
                } else if (thrown == F_SPOILED) {
                    x.act(2, START, ASK, 1, 0, 0);
                } else {
                    x.act(2, START, CALL, 0, 0, 0);
                }
                x.world();
                x.touch(0, ASK, 1, 0, 0);
                x.touch(0, ASK, 2, 0, 0);
                boolean takes = v == -1 || v == thrown;
                due("catch " + v + " of " + thrown, x.state(0, 2), takes ? DONE : SPOILED);
                due("catch " + v + " of " + thrown + " on the tape", x.tape(0, 0), takes ? 1000 + thrown : 0);
            }
        }
    }

    private static void caughtStartStaysSpoiled() {
        StartBench x = new StartBench();
        x.cls(-1, false);
        x.cls(0, false);
        x.cls(-1, false);
        x.act(0, START, THROW, 0, 0, 1);
        x.act(2, START, CATCH, 0, 0, 20);
        x.act(2, START, MAKE, 1, 0, 0);
        x.world();
        due("caught", x.touch(0, ASK, 2, 0, 0), 0);
        statesAre("caught", x, 0, SPOILED, SPOILED, DONE);
        due("below", x.touch(0, MAKE, 1, 0, 0), TO_SPOILED);
        failedIs("below", x, F_SPOILED, 1);
    }
}
