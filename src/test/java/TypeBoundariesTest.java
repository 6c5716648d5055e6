/** Part 1 of the terms and promises 1 to 12: each sentence that names a boundary, at it and behind it. */
public final class TypeBoundariesTest extends Numbers {
    private TypeBoundariesTest() {
    }

    public static void main(String[] args) {
        nothingInANewObject();
        fortyTypesOfBothSorts();
        numbersHaveNoGaps();
        oneAboveOrNone();
        underNoneToFour();
        underFourInOrder();
        sixFieldsOfBothSorts();
        fourMethods();
        namesZeroToNine();
        sameNameForFieldAndMethod();
        twelveActionsInEachBody();
        kindsZeroToEight();
        unusedNumbersOfEachKind();
        valuesOfThrowAndCatch();
        valuesFromLeastToMost();
        foundStepByStep();
        foundMethodStepByStep();
        toldOfTypesAndWorlds();
        toldAsTheyGrow();
        toldBelowUpToThirtyNine();
        notBelowItself();
        asksNoneOneAndMany();
        asksOfAboveFacesAndActions();
        roundFromNoneToForty();
        roundOfTwo();
        Due.end();
    }

    /** "No TYPES, no WORLDS." */
    private static void nothingInANewObject() {
        StartBench x = new StartBench();
        due("1 no TYPES", x.told(0, 0), 0);
        due("1 no WORLDS", x.told(0, 1), 0);
        for (int what = 2; what <= 9; what++) {
            due("1 told of 0, " + what, x.told(0, what), UNKNOWN);
        }
        due("1 none to be ABOVE", x.cls(0, false), UNKNOWN);
        due("1 none to be UNDER", x.under(0, 0), UNKNOWN);
        due("1 none for a FIELD", x.field(0, 0, false, 0), UNKNOWN);
        due("1 none for a METHOD", x.method(0, 0), UNKNOWN);
        due("1 none for an ACTION", x.act(0, START, MARK, 0, 0, 0), UNKNOWN);
        due("1 none to be found by", x.found(0, 0, false), UNKNOWN);
        due("1 none asks", x.asks(0, 0), UNKNOWN);
        due("1 no round", x.round(0), NONE);
        due("1 no WORLD to touch", x.touch(0, ASK, 0, 0, 0), UNKNOWN);
        due("1 no WORLD to foretell in", x.foretell(0, ASK, 0, 0, 0), UNKNOWN);
        due("1 no row", x.began(0, -1), UNKNOWN);
        due("1 no tape", x.tape(0, -1), 0);
        due("1 no value", x.value(0, 0, 0), 0);
        due("1 nothing failed", x.failed(0, 0), UNKNOWN);
        due("1 nothing spent", x.spent(0, 0), UNKNOWN);
        due("1 none to count", x.many(0, UNTOUCHED), UNKNOWN);
        due("1 none to differ", x.differs(0, 0), UNKNOWN);
        due("1 none to go", x.gone(), 0);
    }

    /** "TYPES, 40 at most, numbered from 0 on, are CLASSES ..; and FACES". */
    private static void fortyTypesOfBothSorts() {
        StartBench x = new StartBench();
        for (int i = 0; i < 40; i++) {
            due("1 number " + i, i % 2 == 0 ? x.face(true) : x.cls(-1, false), i);
        }
        due("2 the 41st", x.cls(-1, false), FULL);
        due("3 the 41st", x.face(true), FULL);
        due("8 40 of them", x.told(0, 0), 40);
        due("8 the 40th is there", x.told(39, 2), 0);
        due("8 the 41st isn't", x.told(40, 2), UNKNOWN);
        due("4 the 40th can be UNDER", x.under(39, 38), 1);
        due("4 the 41st can't", x.under(40, 38), UNKNOWN);
    }

    private static void numbersHaveNoGaps() {
        StartBench x = new StartBench();
        x.cls(0, false);
        due("3 0 behind a refused one", x.face(true), 0);
        x.cls(0, false);
        x.cls(1, false);
        due("2 1 behind two refused ones", x.cls(-1, false), 1);
        x.world();
        x.cls(-1, false);
        x.face(true);
        x.gone();
        due("2 2 behind WORLDS", x.cls(1, false), 2);
    }

    /** "each ABOVE it has one CLASS or none"; promise 2's "(-1: none)", "OUTSIDE: it is a FACE". */
    private static void oneAboveOrNone() {
        StartBench x = new StartBench();
        due("2 none", x.cls(-1, false), 0);
        due("2 told none", x.told(0, 4), NONE);
        due("2 the number 0", x.cls(0, true), 1);
        due("2 told 0", x.told(1, 4), 0);
        due("2 an OPEN one", x.cls(1, true), 2);
        due("2 its own number isn't there yet", x.cls(3, true), UNKNOWN);
        due("3 a FACE", x.face(false), 3);
        due("2 a FACE without a DEFAULT", x.cls(3, false), OUTSIDE);
        due("3 a FACE with one", x.face(true), 4);
        due("2 a FACE with a DEFAULT", x.cls(4, false), OUTSIDE);
        due("2 the same twice", x.cls(0, false), 5);
        due("2 told the same", x.told(5, 4), 0);
    }

    /** "A TYPE is told to be UNDER up to 4 FACES"; promise 4's "under how many". */
    private static void underNoneToFour() {
        for (int type = 0; type < 2; type++) {
            StartBench x = new StartBench();
            x.cls(-1, false);
            for (int i = 1; i < 8; i++) {
                x.face(true);
            }
            due("4 UNDER none, type " + type, x.told(type, 5), 0);
            for (int i = 1; i <= 4; i++) {
                due("4 UNDER " + i + ", type " + type, x.under(type, i + 1), i);
            }
            due("4 a fifth, type " + type, x.under(type, 6), FULL);
            due("4 UNDER four, type " + type, x.told(type, 5), 4);
            due("4 not BELOW the fifth, type " + type, x.below(type, 6), 0);
            due("4 the other one has its own four", x.under(1 - type, 6), 1);
            due("4 a FACE may have many BELOW it", x.under(2, 6), 1);
        }
    }

    /** ".., in order": what is told first is found first and starts first. */
    private static void underFourInOrder() {
        StartBench x = new StartBench();
        x.cls(-1, false);
        for (int i = 1; i < 5; i++) {
            x.face(true);
            x.field(i, 0, true, i);
        }
        x.under(0, 4);
        x.under(0, 1);
        x.under(0, 3);
        x.under(0, 2);
        asksAre("11 as told", x, 0, 4, 1, 3, 2);
        due("10 the first told", x.found(0, 0, false), 4);
        x.world();
        x.touch(0, MAKE, 0, 0, 0);
        rowIs("18 as told", x, 0, 4, 1, 3, 2, 0);
    }

    /** "A TYPE has up to 6 FIELDS, PLAIN ones or CONSTANTS with a value". */
    private static void sixFieldsOfBothSorts() {
        StartBench x = new StartBench();
        x.cls(-1, false);
        x.face(false);
        for (int type = 0; type < 2; type++) {
            due("5 none yet", x.told(type, 6), 0);
            for (int i = 1; i <= 6; i++) {
                due("5 how many, type " + type, x.field(type, 10 - i, i % 2 == type, 100 + i), i);
            }
            due("5 a seventh PLAIN one", x.field(type, 0, false, 0), FULL);
            due("5 a seventh CONSTANT", x.field(type, 0, true, 0), FULL);
            due("5 six", x.told(type, 6), 6);
            due("5 the seventh isn't found", x.found(type, 0, false), NONE);
            due("5 METHODS are counted for themselves", x.method(type, 0), 1);
        }
        x.world();
        for (int i = 1; i <= 6; i++) {
            due("20 of the CLASS", x.value(0, 0, 10 - i), i % 2 == 0 ? 100 + i : 0);
            due("20 of the FACE", x.value(0, 1, 10 - i), i % 2 == 1 ? 100 + i : 0);
        }
    }

    /** ".., up to 4 METHODS". */
    private static void fourMethods() {
        StartBench x = new StartBench();
        x.cls(-1, false);
        x.face(false);
        for (int type = 0; type < 2; type++) {
            due("6 none yet", x.told(type, 7), 0);
            for (int i = 1; i <= 4; i++) {
                due("6 how many, type " + type, x.method(type, 10 - i), i);
            }
            due("6 a fifth", x.method(type, 5), FULL);
            due("6 four", x.told(type, 7), 4);
            due("6 the fifth isn't found", x.found(type, 5, true), NONE);
            due("6 the fifth has no BODY", x.act(type, 5, MARK, 0, 0, 0), NO);
            due("6 FIELDS are counted for themselves", x.field(type, 5, false, 0), 1);
        }
    }

    /** "FIELDS, METHODS by NAMES 0 to 9"; promises 5, 6 and 10 refuse what is no NAME. */
    private static void namesZeroToNine() {
        StartBench x = classes(5);
        for (int name = 0; name <= 9; name++) {
            due("5 NAME " + name, x.field(name / 5, name, false, 0), name % 5 + 1);
            due("6 NAME " + name, x.method(2 + name / 4, name), name % 4 + 1);
            due("10 NAME " + name, x.found(name / 5, name, false), name / 5);
            due("10 NAME " + name + " of a METHOD", x.found(2 + name / 4, name, true), 2 + name / 4);
            due("7 NAME " + name + " is read", x.act(0, START, READ, name / 5, name, 0), name + 1);
            due("7 NAME " + name + " is called", x.act(1, START, CALL, 2 + name / 4, name, 0), name + 1);
            due("7 NAME " + name + " is written", x.act(2, START, WRITE, name / 5, name, 0), name + 1);
        }
        for (int wild : new int[] {-1, 10, LEAST, MOST}) {
            due("5 no NAME " + wild, x.field(4, wild, true, 0), OUTSIDE);
            due("6 no NAME " + wild, x.method(0, wild), OUTSIDE);
            due("10 no NAME " + wild, x.found(0, wild, false), OUTSIDE);
            due("10 no NAME of a METHOD " + wild, x.found(0, wild, true), OUTSIDE);
            for (int kind = READ; kind <= CALL; kind++) {
                due("7 no NAME " + wild + " of kind " + kind, x.act(4, START, kind, 0, wild, 0), OUTSIDE);
            }
        }
    }

    /** "(a FIELD and a METHOD may have the same)". */
    private static void sameNameForFieldAndMethod() {
        StartBench x = classes(1);
        due("5 a FIELD", x.field(0, 3, false, 0), 1);
        due("6 a METHOD of its NAME", x.method(0, 3), 1);
        due("6 a METHOD", x.method(0, 4), 2);
        due("5 a FIELD of its NAME", x.field(0, 4, true, 0), 2);
        due("5 a second FIELD of it", x.field(0, 4, false, 0), NO);
        due("6 a second METHOD of it", x.method(0, 3), NO);
        due("10 the FIELD", x.found(0, 3, false), 0);
        due("10 the METHOD", x.found(0, 3, true), 0);
    }

    /** "METHODS and STARTS have a BODY of up to 12 ACTIONS." */
    private static void twelveActionsInEachBody() {
        StartBench x = new StartBench();
        x.cls(-1, false);
        x.face(false);
        for (int type = 0; type < 2; type++) {
            for (int method = START; method < 4; method++) {
                if (method != START) {
                    x.method(type, method);
                }
                for (int i = 1; i <= 12; i++) {
                    due("7 type " + type + " method " + method, x.act(type, method, MARK, 0, 0, 20 * method + i), i);
                }
                due("7 a 13th", x.act(type, method, MARK, 0, 0, 0), FULL);
                due("7 a 13th CATCH", x.act(type, method, CATCH, 0, 0, -1), FULL);
            }
            due("8 the START's alone", x.told(type, 8), 12);
        }
        x.world();
        x.touch(0, ASK, 1, 0, 0);
        x.touch(0, CALL, 1, 3, 0);
        due("19 12 each", x.tape(0, -1), 24);
        due("19 the START's last", x.tape(0, 11), -8);
        due("19 the METHOD's first", x.tape(0, 12), 61);
        due("19 the METHOD's last", x.tape(0, 23), 72);
    }

    /** "ACTIONS, by kind": 0 to 8; promise 7's "OUTSIDE: the kind". */
    private static void kindsZeroToEight() {
        StartBench x = classes(1);
        for (int kind = MARK; kind <= CATCH; kind++) {
            due("7 kind " + kind, x.act(0, START, kind, 0, 0, 0), kind + 1);
        }
        for (int wild : new int[] {-1, 9, 10, LEAST, MOST}) {
            due("7 kind " + wild, x.act(0, START, wild, 0, 0, 0), OUTSIDE);
            due("7 kind " + wild + ", its t doesn't matter", x.act(0, START, wild, -1, 0, 0), OUTSIDE);
        }
        due("8 nine", x.told(0, 8), 9);
    }

    /** Promise 7's "t, n, v that its kind does not use do not matter." */
    private static void unusedNumbersOfEachKind() {
        for (int kind = MARK; kind <= CATCH; kind++) {
            boolean usesT = kind >= READ && kind <= LOOK;
            boolean usesN = kind >= READ && kind <= CALL;
            boolean usesV = kind == THROW || kind == CATCH;
            for (int wild : new int[] {LEAST, -2, 40, MOST}) {
                StartBench x = classes(1);
                String what = "7 kind " + kind + " with " + wild;
                due(what + " where it uses none", x.act(0, START, kind, usesT ? 0 : wild, usesN ? 0 : wild,
                    usesV ? 0 : wild), 1);
                due(what + " as t", x.act(0, START, kind, wild, 0, 0), usesT ? UNKNOWN : 2);
                due(what + " as n", x.act(0, START, kind, 0, wild, 0), usesN ? OUTSIDE : x.told(0, 8));
                due(what + " as v", x.act(0, START, kind, 0, 0, wild), usesV ? OUTSIDE : x.told(0, 8));
            }
        }
    }

    /** Promise 7's "v of 7 (not 0 to 19), of 8 (not -1 to 22)". */
    private static void valuesOfThrowAndCatch() {
        for (int v = -3; v <= 25; v++) {
            StartBench x = classes(1);
            due("7 THROW " + v, x.act(0, START, THROW, 0, 0, v), v >= 0 && v <= 19 ? 1 : OUTSIDE);
            x = classes(1);
            due("7 CATCH " + v, x.act(0, START, CATCH, 0, 0, v), v >= -1 && v <= 22 ? 1 : OUTSIDE);
        }
        StartBench y = classes(1);
        for (int kind = THROW; kind <= CATCH; kind++) {
            due("7 least, kind " + kind, y.act(0, START, kind, 0, 0, LEAST), OUTSIDE);
            due("7 most, kind " + kind, y.act(0, START, kind, 0, 0, MOST), OUTSIDE);
        }
        due("7 none of them came", y.told(0, 8), 0);
    }

    /** A value is any int: of a MARK, a WRITE, a CONSTANT. */
    private static void valuesFromLeastToMost() {
        int[] values = {LEAST, LEAST + 1, -1, 0, 1, MOST - 1, MOST};
        for (int v : values) {
            StartBench x = classes(1);
            x.field(0, 0, true, v);
            x.field(0, 1, false, v);
            x.act(0, START, MARK, 0, 0, v);
            x.act(0, START, WRITE, 0, 1, v);
            x.world();
            due("20 a CONSTANT " + v, x.value(0, 0, 0), v);
            due("20 a PLAIN one's value does not matter", x.value(0, 0, 1), 0);
            x.touch(0, READ, 0, 1, 0);
            x.touch(0, READ, 0, 0, 0);
            tapeIs("19 marked, written, CONSTANT " + v, x, 0, v, v, v);
            due("20 written " + v, x.value(0, 0, 1), v);
        }
    }

    /** "A FIELD of a TYPE by a NAME is FOUND: its own; else .. the first FACE .. by which one is; else .. ABOVE." */
    private static void foundStepByStep() {
        StartBench x = new StartBench();
        x.cls(-1, false);
        x.cls(0, false);
        x.cls(1, false);
        for (int i = 3; i < 7; i++) {
            x.face(i % 2 == 0);
        }
        x.under(2, 3);
        x.under(2, 4);
        x.under(1, 5);
        x.under(4, 6);
        due("10 none", x.found(2, 0, false), NONE);
        int[] owners = {0, 5, 1, 6, 4, 3, 2};
        for (int owner : owners) {
            x.field(owner, 0, owner % 2 == 0, 0);
            due("10 of 2, behind " + owner, x.found(2, 0, false), owner);
        }
        due("10 of 1: its own", x.found(1, 0, false), 1);
        due("10 of 6: its own", x.found(6, 0, false), 6);
        x.field(6, 9, false, 0);
        due("10 the first FACE has none by it, the second has", x.found(2, 9, false), 6);
        due("10 not by what is BELOW", x.found(1, 9, false), NONE);
    }

    /** "A METHOD: its own, of a CLASS else that of the CLASS ABOVE." */
    private static void foundMethodStepByStep() {
        StartBench x = new StartBench();
        x.cls(-1, false);
        x.cls(0, false);
        x.cls(1, false);
        x.face(true);
        x.face(true);
        x.under(2, 3);
        x.under(3, 4);
        x.method(3, 0);
        x.method(4, 1);
        due("10 a CLASS by its FACE: none", x.found(2, 0, true), NONE);
        due("10 a FACE by its FACE: none", x.found(3, 1, true), NONE);
        due("10 a FACE's own", x.found(4, 1, true), 4);
        for (int owner = 0; owner < 3; owner++) {
            x.method(owner, 9);
            due("10 of 2, behind " + owner, x.found(2, 9, true), owner);
        }
        due("10 not by what is BELOW", x.found(0, 8, true), NONE);
    }

    /** Promise 8's "what = 0 TYPES, 1 WORLDS", "UNKNOWN (of 0, 1 not asked); OUTSIDE (ahead)". */
    private static void toldOfTypesAndWorlds() {
        StartBench x = new StartBench();
        for (int wild : WILD) {
            due("8 TYPES, of " + wild, x.told(wild, 0), 0);
            due("8 WORLDS, of " + wild, x.told(wild, 1), 0);
            due("8 9 asks for the TYPE, " + wild, x.told(wild, 9), UNKNOWN);
            due("8 2 asks for the TYPE, " + wild, x.told(wild, 2), UNKNOWN);
            due("8 10, of " + wild, x.told(wild, 10), OUTSIDE);
            due("8 -1, of " + wild, x.told(wild, -1), OUTSIDE);
        }
        x.cls(-1, false);
        for (int worlds = 1; worlds <= 12; worlds++) {
            x.world();
            due("8 WORLDS", x.told(-1, 1), worlds);
        }
        x.world();
        due("8 no more than 12", x.told(0, 1), 12);
        due("8 TYPES", x.told(MOST, 0), 1);
        x.gone();
        due("8 WORLDS that are gone", x.told(0, 1), 0);
    }

    private static void toldAsTheyGrow() {
        StartBench x = new StartBench();
        for (int i = 0; i < 6; i++) {
            x.face(false);
        }
        x.cls(-1, true);
        for (int i = 1; i <= 4; i++) {
            x.under(6, i);
            due("8 FACES", x.told(6, 5), i);
            x.method(6, i);
            due("8 METHODS", x.told(6, 7), i);
        }
        for (int i = 1; i <= 6; i++) {
            x.field(6, i, i > 3, i);
            due("8 FIELDS", x.told(6, 6), i);
        }
        for (int i = 1; i <= 12; i++) {
            x.act(6, START, LOOK, 6, 0, 0);
            due("8 ACTIONS", x.told(6, 8), i);
        }
        x.act(6, 1, LOOK, 6, 0, 0);
        due("8 ACTIONS of its START", x.told(6, 8), 12);
        int[] all = {0, 1, NONE, 4, 6, 4, 12, 0};
        int[] none = {1, 0, NONE, 0, 0, 0, 0, 0};
        for (int what = 2; what <= 9; what++) {
            due("8 of one that is full, " + what, x.told(6, what), all[what - 2]);
            due("8 of one that is empty, " + what, x.told(0, what), none[what - 2]);
        }
    }

    /** Promise 8's "9 how many are BELOW it": each once, by whatever ways. */
    private static void toldBelowUpToThirtyNine() {
        StartBench x = new StartBench();
        x.face(true);
        due("8 none is BELOW the only one", x.told(0, 9), 0);
        for (int i = 1; i < 40; i++) {
            x.face(true);
            x.under(i, 0);
            if (i > 1) {
                x.under(i, i - 1);
            }
            due("8 BELOW it", x.told(0, 9), i);
        }
        due("8 BELOW the second", x.told(1, 9), 38);
        due("8 BELOW the last but one", x.told(38, 9), 1);
        due("8 BELOW the last", x.told(39, 9), 0);
    }

    /** Promise 9's "(it is not BELOW itself)". */
    private static void notBelowItself() {
        StartBench x = new StartBench();
        x.cls(-1, false);
        x.cls(0, false);
        x.face(true);
        x.face(true);
        x.under(1, 3);
        x.under(3, 2);
        x.act(0, START, ASK, 1, 0, 0);
        x.act(1, START, ASK, 0, 0, 0);
        for (int type = 0; type < 4; type++) {
            due("9 " + type + " isn't BELOW itself", x.below(type, type), 0);
        }
        int[][] below = {{0, 0, 0, 0}, {1, 0, 1, 1}, {0, 0, 0, 0}, {0, 0, 1, 0}};
        for (int type = 0; type < 4; type++) {
            for (int other = 0; other < 4; other++) {
                due("9 " + type + " BELOW " + other, x.below(type, other), below[type][other]);
            }
        }
        due("9 both unknown, and the same", x.below(4, 4), UNKNOWN);
    }

    /** Promise 11's "(from 0)", "each once", "Itself is none. NONE." */
    private static void asksNoneOneAndMany() {
        StartBench x = classes(3);
        asksAre("11 an empty START", x, 0);
        for (int wild : WILD) {
            due("11 place " + wild + " of none", x.asks(0, wild), NONE);
        }
        x.act(0, START, ASK, 0, 0, 0);
        asksAre("11 itself", x, 0);
        x.act(0, START, ASK, 2, 0, 0);
        asksAre("11 one", x, 0, 2);
        x.act(0, START, MAKE, 2, 0, 0);
        asksAre("11 once", x, 0, 2);
        x.act(0, START, CATCH, 0, 0, -1);
        x.act(0, START, MAKE, 1, 0, 0);
        asksAre("11 two, the second CAUGHT", x, 0, 2, 1);
        x.act(0, START, CATCH, 0, 0, -1);
        asksAre("11 a CATCH without a next one", x, 0, 2, 1);
        for (int wild : WILD) {
            due("11 place " + wild + " of two", x.asks(0, wild), NONE);
        }
    }

    /** ABOVE, four FACES, twelve ACTIONS, no two the same. */
    private static void asksOfAboveFacesAndActions() {
        StartBench x = classes(14);
        for (int i = 14; i < 18; i++) {
            x.face(true);
        }
        x.cls(0, false);
        for (int i = 17; i > 13; i--) {
            x.under(18, i);
        }
        for (int i = 13; i > 1; i--) {
            x.act(18, START, ASK, i, 0, 0);
        }
        asksAre("11 seventeen", x, 18, 0, 17, 16, 15, 14, 13, 12, 11, 10, 9, 8, 7, 6, 5, 4, 3, 2);
    }

    /** Promise 12's "(from 0), by numbers", "NONE": none, all 40, and what is behind. */
    private static void roundFromNoneToForty() {
        StartBench x = classes(40);
        for (int i = 39; i > 0; i--) {
            x.act(i, START, ASK, i - 1, 0, 0);
        }
        due("12 a way of 40 is no round", x.round(0), NONE);
        x.act(0, START, ASK, 39, 0, 0);
        for (int i = 0; i < 40; i++) {
            due("12 place " + i, x.round(i), i);
        }
        for (int wild : WILD) {
            due("12 place " + wild, x.round(wild), NONE);
        }
    }

    /** "asked for by way of what it asks for": itself is none, so two are the least. */
    private static void roundOfTwo() {
        StartBench x = classes(5);
        x.method(2, 0);
        for (int i = 0; i < 5; i++) {
            x.act(i, START, ASK, i, 0, 0);
        }
        x.act(2, 0, ASK, 4, 0, 0);
        due("12 each asks itself", x.round(0), NONE);
        x.act(4, START, ASK, 2, 0, 0);
        due("12 METHODS' ACTIONS don't ask", x.round(0), NONE);
        x.act(2, START, ASK, 4, 0, 0);
        x.act(0, START, ASK, 2, 0, 0);
        due("12 the lower number", x.round(0), 2);
        due("12 the higher one", x.round(1), 4);
        due("12 what only leads to it isn't in it", x.round(2), NONE);
    }
}
