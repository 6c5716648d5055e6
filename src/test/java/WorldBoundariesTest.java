/** Parts 2 and 3 of the terms and promises 13 to 24: each sentence that names a boundary, at it and behind it. */
public final class WorldBoundariesTest extends Numbers {
    private WorldBoundariesTest() {
    }

    public static void main(String[] args) {
        allUntouchedAtFirst();
        twelveWorldsAndNone();
        noneAndTwelveGo();
        tapeAtThreeHundred();
        tapeOverThreeHundredInOneTouch();
        tapeAtThreeHundredByCatch();
        tapeAtThreeHundredWhenForetold();
        tapeAtThreeHundredWhenTakenBack();
        thrownFromZeroToNineteen();
        thrownInStartsFromZeroToNineteen();
        spoiledFromFirstToLast();
        kindsOneToSix();
        namesOfTouches();
        makeOfWhatCantBe();
        catchAtTheEndOfTwelve();
        constantsOfUntouchedAndSpoiled();
        wholeWorldIsTakenBack();
        fiveBehindOthers();
        fiveByEachLimitIsNotCaught();
        actionsOfATouchAlone();
        bodiesOfATouchAlone();
        latestTouchOfEachWorld();
        rowOfNoneAndForty();
        manyOfNoneAndForty();
        differsInTheFirstAndTheLast();
        fiveHundredAndTwelveCalls();
        Due.end();
    }

    /** "A WORLD in which all is UNTOUCHED", "for each PLAIN FIELD a value, 0 at first". */
    private static void allUntouchedAtFirst() {
        StartBench x = classes(40);
        for (int type = 0; type < 40; type++) {
            x.field(type, 0, false, 7);
        }
        due("13 the first", x.world(), 0);
        for (int type = 0; type < 40; type++) {
            due("17 type " + type, x.state(0, type), UNTOUCHED);
            due("20 type " + type, x.value(0, type, 0), 0);
        }
        rowIs("18 at first", x, 0);
        tapeIs("19 at first", x, 0);
        failedIs("21 at first", x, NONE, NONE);
        spentIs("22 at first", x, 0, 0, 0, 0);
        due("24 itself", x.differs(0, 0), NONE);
    }

    /** Promise 13's "FULL: 12; NO: there are no TYPES." */
    private static void twelveWorldsAndNone() {
        StartBench x = new StartBench();
        due("13 no TYPES", x.world(), NO);
        due("13 still none", x.told(0, 1), 0);
        x.face(false);
        for (int i = 0; i < 12; i++) {
            due("13 with one TYPE, number " + i, x.world(), i);
            due("17 it is there", x.state(i, 0), UNTOUCHED);
            due("17 the next isn't", x.state(i + 1, 0), UNKNOWN);
        }
        due("13 the 13th", x.world(), FULL);
        due("13 the 14th", x.world(), FULL);
        due("15 the 12th can be touched", x.touch(11, ASK, 0, 0, 0), 0);
        due("17 the 11th isn't touched", x.state(10, 0), UNTOUCHED);
        due("24 the first and the 12th", x.differs(0, 11), 0);
    }

    /** Promise 14's "how many there were". */
    private static void noneAndTwelveGo() {
        StartBench x = classes(2);
        x.field(1, 4, false, 0);
        due("14 none", x.gone(), 0);
        for (int times = 0; times < 3; times++) {
            for (int i = 0; i < 12; i++) {
                x.world();
                due("20 untouched, time " + times, x.value(i, 1, 4), 0);
                x.touch(i, WRITE, 1, 4, 8);
            }
            due("14 twelve", x.gone(), 12);
            due("14 none is left", x.gone(), 0);
            due("17 the first is gone", x.state(0, 0), UNKNOWN);
            due("17 the last is gone", x.state(11, 0), UNKNOWN);
            due("2 TYPES again", x.cls(-1, false), 2 + times);
        }
        x.world();
        due("14 one", x.gone(), 1);
    }

    /** METHOD m of TYPE 0 puts m + 1 places on THE TAPE, METHOD 3 twelve. */
    private static StartBench benchOfMarks() {
        StartBench x = classes(1);
        for (int m = 0; m < 4; m++) {
            x.method(0, m);
        }
        acts(x, 1, 0, 0, MARK, 0, 101);
        acts(x, 2, 0, 1, MARK, 0, 102);
        acts(x, 3, 0, 2, MARK, 0, 103);
        acts(x, 12, 0, 3, MARK, 0, 112);
        return x;
    }

    private static void mark(StartBench x, int places) {
        for (int i = places / 12; i > 0; i--) {
            x.touch(0, CALL, 0, 3, 0);
        }
        for (int i = places % 12; i > 0; i--) {
            x.touch(0, CALL, 0, 0, 0);
        }
    }

    /** "THE TAPE (300 kept, the others counted)"; promise 19's "0: it has none such kept", "(i = -1: ..)". */
    private static void tapeAtThreeHundred() {
        StartBench x = benchOfMarks();
        x.field(0, 0, true, 55);
        x.world();
        mark(x, 299);
        due("19 299", x.tape(0, -1), 299);
        due("19 the 299th", x.tape(0, 298), 101);
        due("19 no 300th", x.tape(0, 299), 0);
        x.touch(0, READ, 0, 0, 0);
        due("19 300", x.tape(0, -1), 300);
        due("19 the 300th", x.tape(0, 299), 55);
        due("19 no 301st", x.tape(0, 300), 0);
        x.touch(0, READ, 0, 0, 0);
        due("19 301", x.tape(0, -1), 301);
        due("19 the 300th stays", x.tape(0, 299), 55);
        due("19 the 301st isn't kept", x.tape(0, 300), 0);
        due("19 the first stays", x.tape(0, 0), 112);
        for (int wild : new int[] {-2, LEAST, MOST}) {
            due("19 place " + wild, x.tape(0, wild), 0);
        }
        x.world();
        tapeIs("19 of another WORLD", x, 1);
    }

    private static void tapeOverThreeHundredInOneTouch() {
        StartBench x = benchOfMarks();
        x.method(0, 4);
        x.cls(-1, false);
        x.method(1, 0);
        for (int i = 0; i < 12; i++) {
            x.act(1, 0, CALL, 0, 3, 0);
        }
        x.act(1, START, CALL, 0, 1, 0);
        x.act(1, START, CALL, 0, 2, 0);
        x.world();
        x.touch(0, CALL, 1, 0, 0);
        due("19 149", x.tape(0, -1), 149);
        due("19 the START's first", x.tape(0, 1), 102);
        due("19 the METHOD's first", x.tape(0, 5), 112);
        x.touch(0, CALL, 1, 0, 0);
        x.touch(0, CALL, 0, 1, 0);
        x.touch(0, CALL, 1, 0, 0);
        due("19 439", x.tape(0, -1), 439);
        due("19 the 293rd", x.tape(0, 292), 112);
        due("19 the 294th", x.tape(0, 293), 102);
        due("19 the 295th", x.tape(0, 294), 102);
        due("19 the 300th", x.tape(0, 299), 112);
        due("19 the 301st isn't kept", x.tape(0, 300), 0);
        due("19 the 439th isn't kept", x.tape(0, 438), 0);
    }

    private static void tapeAtThreeHundredByCatch() {
        StartBench x = benchOfMarks();
        x.cls(-1, false);
        x.method(1, 0);
        x.act(1, 0, CATCH, 0, 0, -1);
        x.act(1, 0, THROW, 0, 0, 4);
        x.world();
        mark(x, 299);
        x.touch(0, CALL, 1, 0, 0);
        due("19 the 300th by a CATCH", x.tape(0, 299), 1004);
        due("15 the 301st by a CATCH", x.touch(0, CALL, 1, 0, 0), 0);
        due("19 it is counted", x.tape(0, -1), 301);
        due("19 it isn't kept", x.tape(0, 300), 0);
    }

    private static void tapeAtThreeHundredWhenForetold() {
        StartBench x = benchOfMarks();
        x.world();
        mark(x, 299);
        due("16 twelve more", x.foretell(0, CALL, 0, 3, 0), 0);
        due("19 299", x.tape(0, -1), 299);
        due("19 no 300th", x.tape(0, 299), 0);
        x.touch(0, CALL, 0, 1, 0);
        due("19 301", x.tape(0, -1), 301);
        due("19 the 300th", x.tape(0, 299), 102);
        due("16 twelve more behind 300", x.foretell(0, CALL, 0, 3, 0), 0);
        due("19 still 301", x.tape(0, -1), 301);
        due("19 still the 300th", x.tape(0, 299), 102);
    }

    private static void tapeAtThreeHundredWhenTakenBack() {
        StartBench x = benchOfMarks();
        x.cls(-1, false);
        x.method(1, 0);
        x.act(1, 0, CALL, 0, 2, 0);
        x.act(1, 0, CALL, 1, 0, 0);
        x.world();
        mark(x, 298);
        due("15 over", x.touch(0, CALL, 1, 0, 0), TO_OVER);
        due("19 298", x.tape(0, -1), 298);
        due("19 no 299th", x.tape(0, 298), 0);
        due("19 the 298th", x.tape(0, 297), 101);
        x.touch(0, CALL, 0, 1, 0);
        due("19 300", x.tape(0, -1), 300);
        due("19 the 299th", x.tape(0, 298), 102);
        due("19 the 300th", x.tape(0, 299), 102);
        due("15 over again", x.touch(0, CALL, 1, 0, 0), TO_OVER);
        due("19 still 300", x.tape(0, -1), 300);
        due("19 still the 300th", x.tape(0, 299), 102);
    }

    /** "FAILURES, by number: 0 to 19 THROWN"; promise 21's "i = 0 the FAILURE that it came to". */
    private static void thrownFromZeroToNineteen() {
        for (int v = 0; v <= 19; v++) {
            StartBench x = classes(1);
            x.method(0, 0);
            x.act(0, 0, THROW, 0, 0, v);
            x.world();
            due("16 THROWN " + v, x.foretell(0, CALL, 0, 0, 0), TO_THROWN);
            due("15 THROWN " + v, x.touch(0, CALL, 0, 0, 0), TO_THROWN);
            failedIs("21 THROWN " + v, x, v, NONE);
            due("17 the TYPE isn't spoiled by its METHOD", x.state(0, 0), DONE);
        }
    }

    /** "20 STARTED, with the THROWN one that it is of". */
    private static void thrownInStartsFromZeroToNineteen() {
        for (int v = 0; v <= 19; v++) {
            StartBench x = new StartBench();
            x.cls(-1, false);
            x.cls(0, false);
            x.act(0, START, THROW, 0, 0, v);
            x.world();
            due("16 STARTED of " + v, x.foretell(0, MAKE, 1, 0, 0), TO_STARTED);
            due("15 STARTED of " + v, x.touch(0, MAKE, 1, 0, 0), TO_STARTED);
            failedIs("21 STARTED of " + v, x, F_STARTED, v);
            statesAre("17 STARTED of " + v, x, 0, SPOILED, SPOILED);
        }
    }

    /** "21 SPOILED, with its TYPE": the TYPES 0 and 39, too. */
    private static void spoiledFromFirstToLast() {
        StartBench x = classes(40);
        for (int type : new int[] {0, 1, 38, 39}) {
            x.act(type, START, THROW, 0, 0, 0);
        }
        x.world();
        for (int type : new int[] {0, 1, 38, 39}) {
            due("15 STARTED, " + type, x.touch(0, ASK, type, 0, 0), TO_STARTED);
            failedIs("21 STARTED, " + type, x, F_STARTED, 0);
            due("15 SPOILED, " + type, x.touch(0, ASK, type, 0, 0), TO_SPOILED);
            failedIs("21 SPOILED, " + type, x, F_SPOILED, type);
        }
        due("15 none", x.touch(0, ASK, 2, 0, 0), 0);
        failedIs("21 none", x, NONE, NONE);
    }

    /** "A TOUCH does one ACTION of kinds 1 to 6"; promises 15 and 16: "OUTSIDE: kind". */
    private static void kindsOneToSix() {
        StartBench x = classes(1);
        x.field(0, 0, false, 0);
        x.method(0, 0);
        x.world();
        for (int kind = READ; kind <= LOOK; kind++) {
            due("16 kind " + kind, x.foretell(0, kind, 0, 0, 0), 0);
            due("15 kind " + kind, x.touch(0, kind, 0, 0, 0), 0);
        }
        for (int wild : new int[] {LEAST, -1, MARK, THROW, CATCH, 9, MOST}) {
            due("16 kind " + wild, x.foretell(0, wild, 0, 0, 0), OUTSIDE);
            due("15 kind " + wild, x.touch(0, wild, 0, 0, 0), OUTSIDE);
            due("15 kind " + wild + " of no TYPE", x.touch(0, wild, 1, 0, 0), UNKNOWN);
            due("15 kind " + wild + " in no WORLD", x.touch(1, wild, 0, 0, 0), UNKNOWN);
        }
        tapeIs("19 one was read", x, 0, 0);
    }

    /** Promise 15's "n (of 1 to 3)": of 4 to 6 it is anything. */
    private static void namesOfTouches() {
        StartBench x = classes(1);
        for (int name = 0; name < 10; name += 9) {
            x.field(0, name, false, 0);
            x.method(0, name);
        }
        x.world();
        for (int kind = READ; kind <= LOOK; kind++) {
            for (int n : new int[] {LEAST, -1, 0, 9, 10, MOST}) {
                int want = kind <= CALL && (n < 0 || n > 9) ? OUTSIDE : 0;
                due("16 kind " + kind + " n " + n, x.foretell(0, kind, 0, n, 0), want);
                due("15 kind " + kind + " n " + n, x.touch(0, kind, 0, n, 0), want);
            }
        }
    }

    /** "RULED is what can't be: .. a MAKE of a FACE, of an OPEN CLASS: ahead of all else." */
    private static void makeOfWhatCantBe() {
        StartBench x = new StartBench();
        x.cls(-1, true);
        x.cls(0, false);
        x.face(true);
        x.face(false);
        x.act(0, START, THROW, 0, 0, 3);
        x.world();
        int[] came = {TO_RULED, TO_STARTED, TO_RULED, TO_RULED};
        for (int type = 3; type >= 0; type--) {
            due("16 MAKE of " + type, x.foretell(0, MAKE, type, 0, 0), came[type]);
            due("15 MAKE of " + type, x.touch(0, MAKE, type, 0, 0), came[type]);
        }
        statesAre("17 MAKES", x, 0, SPOILED, SPOILED, UNTOUCHED, UNTOUCHED);
        due("15 a spoiled OPEN one can't be, either", x.touch(0, MAKE, 0, 0, 0), TO_RULED);
        failedIs("21 RULED", x, F_RULED, NONE);
        due("15 ASK of an OPEN CLASS", x.touch(0, ASK, 0, 0, 0), TO_SPOILED);
        due("15 ASK of a FACE without a DEFAULT", x.touch(0, ASK, 3, 0, 0), 0);
        due("15 LOOK at a spoiled one", x.touch(0, LOOK, 0, 0, 0), 0);
    }

    /** "(Without a next one it does nothing.)", the 12th place; the 11th has a next one. */
    private static void catchAtTheEndOfTwelve() {
        StartBench x = classes(3);
        acts(x, 10, 0, START, LOOK, 0, 0);
        x.act(0, START, CATCH, 0, 0, -1);
        x.act(0, START, THROW, 0, 0, 7);
        acts(x, 11, 1, START, LOOK, 0, 0);
        x.act(1, START, CATCH, 0, 0, -1);
        acts(x, 12, 2, START, CATCH, 0, -1);
        x.world();
        due("15 the 11th takes the 12th's", x.touch(0, ASK, 0, 0, 0), 0);
        spentIs("22 the 11th takes the 12th's", x, 13, 1, 1, 1);
        tapeIs("19 the 11th takes the 12th's", x, 0, 1007);
        due("15 the 12th does nothing", x.touch(0, ASK, 1, 0, 0), 0);
        spentIs("22 the 12th does nothing", x, 13, 1, 0, 1);
        due("15 twelve of them", x.touch(0, ASK, 2, 0, 0), 0);
        spentIs("22 twelve of them", x, 13, 1, 0, 1);
        tapeIs("19 no more", x, 0, 1007);
    }

    /** "READ of a CONSTANT starts nothing"; promise 20's "nothing is started; 0: there is none". */
    private static void constantsOfUntouchedAndSpoiled() {
        StartBench x = new StartBench();
        x.cls(-1, false);
        x.cls(0, false);
        x.field(0, 0, true, 9);
        x.field(0, 1, false, 9);
        x.act(0, START, WRITE, 0, 1, 4);
        x.act(0, START, THROW, 0, 0, 0);
        x.world();
        for (int times = 0; times < 2; times++) {
            due("15 READ of a CONSTANT", x.touch(0, READ, 1, 0, 0), 0);
            due("20 a CONSTANT", x.value(0, 1, 0), 9);
            due("20 a PLAIN one", x.value(0, 1, 1), times * 4);
            due("20 there is none", x.value(0, 1, 2), 0);
            due("17 nothing is started", x.state(0, 0), times == 0 ? UNTOUCHED : SPOILED);
            due("15 WRITE into a CONSTANT", x.touch(0, WRITE, 1, 0, 5), TO_RULED);
            due("15 READ of none", x.touch(0, READ, 1, 2, 0), TO_RULED);
            due("15 ASK", x.touch(0, ASK, 0, 0, 0), times == 0 ? TO_STARTED : TO_SPOILED);
        }
        tapeIs("19 the CONSTANT alone", x, 0, 9, 9);
    }

    /** "or 5: .. the WORLD is as it was ahead", and "nothing is done" of promise 16: in each of 40 TYPES. */
    private static void wholeWorldIsTakenBack() {
        StartBench x = classes(40);
        for (int type = 0; type < 40; type++) {
            x.field(type, 9, false, 0);
            x.method(type, 0);
            x.act(type, 0, WRITE, type, 9, 77);
            x.act(type, 0, CALL, (type + 1) % 40, 0, 0);
        }
        x.world();
        x.world();
        for (int type = 0; type < 40; type += 20) {
            due("16 over, from " + type, x.foretell(0, CALL, type, 0, 0), TO_OVER);
            due("24 foretold", x.differs(0, 1), NONE);
            due("15 over, from " + type, x.touch(0, CALL, type, 0, 0), TO_OVER);
            due("24 taken back", x.differs(0, 1), NONE);
            due("16 a WRITE", x.foretell(0, WRITE, type + 19, 9, 5), 0);
            due("24 a WRITE foretold", x.differs(0, 1), NONE);
        }
        for (int type = 0; type < 40; type++) {
            due("20 of " + type, x.value(0, type, 9), 0);
            due("17 of " + type, x.state(0, type), UNTOUCHED);
        }
        rowIs("18 taken back", x, 0);
    }

    /** Promise 21's "(5: NONE.)" and 22's "as it stood then", behind a TOUCH that failed, ahead of one that doesn't. */
    private static void fiveBehindOthers() {
        StartBench x = classes(1);
        x.method(0, 0);
        x.method(0, 1);
        x.act(0, 0, CALL, 0, 0, 0);
        x.act(0, 1, THROW, 0, 0, 6);
        x.world();
        x.touch(0, CALL, 0, 1, 0);
        failedIs("21 ahead", x, 6, NONE);
        due("16 foretold", x.foretell(0, CALL, 0, 0, 0), TO_OVER);
        failedIs("21 foretold", x, 6, NONE);
        spentIs("22 foretold", x, 2, 1, 1, 1);
        due("15 over", x.touch(0, CALL, 0, 0, 0), TO_OVER);
        failedIs("21 over", x, NONE, NONE);
        spentIs("22 over", x, 31, 30, 0, 0);
        x.touch(0, LOOK, 0, 0, 0);
        failedIs("21 behind", x, NONE, NONE);
        spentIs("22 behind", x, 1, 0, 0, 0);
    }

    /** "then no CATCH takes anything", by each of the three limits, one CATCH around it all. */
    private static void fiveByEachLimitIsNotCaught() {
        StartBench x = classes(2);
        for (int name = 0; name < 4; name++) {
            x.method(0, name);
            x.method(1, name);
        }
        acts(x, 12, 0, 0, LOOK, 0, 0);
        acts(x, 12, 0, 1, CALL, 0, 0);
        acts(x, 12, 0, 2, CALL, 1, 0);
        x.act(0, 3, CATCH, 0, 0, -1);
        x.act(0, 3, CALL, 0, 3, 0);
        for (int i = 0; i < 6; i++) {
            x.act(1, 0, CATCH, 0, 0, -1);
            x.act(1, 0, THROW, 0, 0, 0);
            x.act(1, 1, CATCH, 0, 0, -1);
            x.act(1, 1, CALL, 1, 0, 0);
        }
        acts(x, 2, 1, 2, CALL, 1, 0);
        int[][] limits = {{0, 2}, {0, 3}, {1, 2}};
        for (int[] limit : limits) {
            x.act(1, 3, CATCH, 0, 0, -1);
            x.act(1, 3, CALL, limit[0], limit[1], 0);
            x.world();
            due("15 limit of " + limit[0] + " " + limit[1], x.touch(0, CALL, limit[0], limit[1], 0), TO_OVER);
            due("15 within a CATCH", x.touch(0, CALL, 1, 3, 0), TO_OVER);
            tapeIs("19 within a CATCH", x, 0);
            rowIs("18 within a CATCH", x, 0);
            x.gone();
        }
    }

    /** "more than 1000 ACTIONS would be done (that one is the first ..)": each TOUCH for itself. */
    private static void actionsOfATouchAlone() {
        StartBench x = classes(1);
        for (int name = 0; name < 3; name++) {
            x.method(0, name);
        }
        acts(x, 12, 0, 0, LOOK, 0, 0);
        acts(x, 12, 0, 1, CALL, 0, 0);
        acts(x, 6, 0, 2, CALL, 1, 0);
        x.world();
        for (int times = 0; times < 3; times++) {
            due("15 943 of them", x.touch(0, CALL, 0, 2, 0), 0);
            due("16 943 of them", x.foretell(0, CALL, 0, 2, 0), 0);
            due("22 943 of them", x.spent(0, 0), 943);
            x.touch(0, LOOK, 0, 0, 0);
            due("22 that one alone", x.spent(0, 0), 1);
        }
    }

    /** "more than 30 BODIES would be within one another", empty ones, too. */
    private static void bodiesOfATouchAlone() {
        for (int last = 28; last <= 31; last++) {
            StartBench x = classes(last);
            for (int type = 0; type < last; type++) {
                x.method(type, 5);
                if (type + 1 < last) {
                    x.act(type, 5, CALL, type + 1, 5, 0);
                }
            }
            x.world();
            boolean over = last > 30;
            due("15 " + last + " BODIES, the last empty", x.touch(0, CALL, 0, 5, 0), over ? TO_OVER : 0);
            due("22 BODIES of " + last, x.spent(0, 1), over ? 30 : last);
            due("22 ACTIONS of " + last, x.spent(0, 0), last);
            due("22 STARTS of " + last, x.spent(0, 3), over ? 30 : last);
            due("23 DONE of " + last, x.many(0, DONE), over ? 0 : last);
        }
    }

    /** Promises 21 and 22: "Of the latest touch() in a WORLD". */
    private static void latestTouchOfEachWorld() {
        StartBench x = classes(2);
        x.act(1, START, THROW, 0, 0, 12);
        for (int world = 0; world < 12; world++) {
            x.world();
        }
        for (int world = 0; world < 12; world++) {
            due("15 in " + world, x.touch(world, ASK, world % 2, 0, 0), world % 2);
        }
        for (int world = 0; world < 12; world++) {
            boolean threw = world % 2 == 1;
            due("21 in " + world, x.failed(world, 0), threw ? F_STARTED : NONE);
            due("21 of, in " + world, x.failed(world, 1), threw ? 12 : NONE);
            due("22 ACTIONS in " + world, x.spent(world, 0), threw ? 2 : 1);
            due("22 FAILURES in " + world, x.spent(world, 2), threw ? 2 : 0);
        }
    }

    /** Promise 18's "TYPE i of THE ROW; NONE. (i = -1: how many.)" */
    private static void rowOfNoneAndForty() {
        StartBench x = classes(40);
        x.world();
        due("18 none", x.began(0, -1), 0);
        due("18 no first", x.began(0, 0), NONE);
        for (int i = 0; i < 40; i++) {
            x.touch(0, ASK, 39 - i, 0, 0);
            due("18 how many", x.began(0, -1), i + 1);
            due("18 the last", x.began(0, i), 39 - i);
            due("18 no more", x.began(0, i + 1), NONE);
        }
        for (int wild : new int[] {-2, 40, LEAST, MOST}) {
            due("18 place " + wild, x.began(0, wild), NONE);
        }
    }

    /** Promise 23's "How many TYPES have a STATE": none and all, states 0 to 3. */
    private static void manyOfNoneAndForty() {
        StartBench x = classes(40);
        for (int type = 0; type < 40; type += 2) {
            x.act(type, START, THROW, 0, 0, 0);
        }
        x.world();
        for (int type = 0; type <= 40; type++) {
            due("23 UNTOUCHED", x.many(0, UNTOUCHED), 40 - type);
            due("23 UNDER WAY", x.many(0, UNDER_WAY), 0);
            due("23 DONE", x.many(0, DONE), type / 2);
            due("23 SPOILED", x.many(0, SPOILED), (type + 1) / 2);
            if (type < 40) {
                x.touch(0, ASK, type, 0, 0);
            }
        }
        for (int wild : new int[] {-1, 4, LEAST, MOST}) {
            due("23 state " + wild, x.many(0, wild), OUTSIDE);
        }
    }

    /** Promise 24's "The first TYPE whose STATE, or one of whose own FIELDS, is another one; NONE." */
    private static void differsInTheFirstAndTheLast() {
        StartBench x = classes(40);
        for (int type = 0; type < 40; type += 39) {
            for (int name = 2; name < 8; name++) {
                x.field(type, name, name == 5, 31);
            }
        }
        x.world();
        x.world();
        for (int world = 0; world < 2; world++) {
            x.touch(world, ASK, 0, 0, 0);
            x.touch(world, ASK, 39, 0, 0);
        }
        for (int type = 39; type >= 0; type -= 39) {
            for (int name = 2; name < 8; name++) {
                due("24 alike", x.differs(0, 1), NONE);
                x.touch(0, WRITE, type, name, -1);
                due("24 " + type + " by " + name, x.differs(0, 1), name == 5 ? NONE : type);
                due("24 " + type + " by " + name + ", other way", x.differs(1, 0), name == 5 ? NONE : type);
                x.touch(1, WRITE, type, name, -1);
            }
        }
        x.touch(0, ASK, 38, 0, 0);
        due("24 by a STATE", x.differs(0, 1), 38);
        x.touch(1, WRITE, 0, 7, 6);
        due("24 the first of two", x.differs(0, 1), 0);
        due("24 itself", x.differs(0, 0), NONE);
    }

    /** "An object is used for at most 512 calls": the last one is answered as the first. */
    private static void fiveHundredAndTwelveCalls() {
        StartBench x = new StartBench();
        x.cls(-1, false);
        x.field(0, 0, false, 0);
        x.world();
        for (int i = 4; i < 510; i++) {
            due("15 call " + i, x.touch(0, i % 2 == 0 ? WRITE : READ, 0, 0, i), 0);
        }
        due("19 the 511th call", x.tape(0, -1), 253);
        due("20 the 512th call", x.value(0, 0, 0), 508);
    }
}
