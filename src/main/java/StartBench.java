import java.util.Arrays;

/**
 * A bench for starts: TYPES are described, WORLDS are made in which they are used, and each use
 * is done or foretold as the rules of the language give it. See README.md.
 */
public final class StartBench {
    public static final int NONE = -6, UNKNOWN = -1, OUTSIDE = -2, STATE = -3, FULL = -4, NO = -5;

    private static final int MAX_TYPES = 40;
    private static final int MAX_FACES = 4;
    private static final int MAX_FIELDS = 6;
    private static final int MAX_METHODS = 4;
    private static final int MAX_ACTIONS = 12;
    private static final int NAMES = 10;
    private static final int MAX_WORLDS = 12;
    private static final int TAPE_KEPT = 300;

    private static final int MOST_DONE = 1000;
    private static final int MOST_WITHIN = 30;
    private static final int MOST_FAILURES = 40;

    private static final int MARK = 0;
    private static final int READ = 1;
    private static final int WRITE = 2;
    private static final int CALL = 3;
    private static final int MAKE = 4;
    private static final int ASK = 5;
    private static final int LOOK = 6;
    private static final int THROW = 7;
    private static final int CATCH = 8;

    private static final int ABSENT = 0;
    private static final int PLAIN = 1;
    private static final int CONSTANT = 2;

    private static final int UNTOUCHED = 0;
    private static final int UNDER_WAY = 1;
    private static final int DONE = 2;
    private static final int SPOILED = 3;

    /** The FAILURES' numbers; below FAILED_STARTED they are THROWN ones. */
    private static final int FAILED_STARTED = 20;
    private static final int FAILED_SPOILED = 21;
    private static final int FAILED_RULED = 22;
    /** Stands where a FAILURE's number stands when a TOUCH goes beyond what may be spent. */
    private static final int OVER = 23;

    private static final int CATCH_ANY = -1;
    private static final int CAUGHT = 1000;
    private static final int START = -1;

    /** What startedBy answers of an ACTION that can't be. */
    private static final int RULED_OUT = -22;
    /** What the memo of found FIELDS holds where none was looked for yet. */
    private static final int NOT_SOUGHT = -1;

    private final Description description;
    /** WORLDS that are gone stay in their places and are used again. */
    private final World[] worlds;
    private int worldCount;
    /** A WORLD as it was ahead of the TOUCH at hand. */
    private final World ahead;

    public StartBench() {
        description = new Description();
        worlds = new World[MAX_WORLDS];
        worldCount = 0;
        ahead = new World();
    }

    // ---- 1 types

    public int cls(int above, boolean open) {
        if (above != -1 && !description.knows(above)) {
            return UNKNOWN;
        }
        if (above != -1 && description.types[above].isFace) {
            return OUTSIDE;
        }
        return addType(false, open, above == -1 ? NONE : above);
    }

    public int face(boolean hasDefault) {
        return addType(true, hasDefault, NONE);
    }

    private int addType(boolean isFace, boolean special, int above) {
        if (worldCount > 0) {
            return STATE;
        }
        return description.count >= MAX_TYPES ? FULL : description.append(new Type(isFace, special, above));
    }

    public int under(int type, int face) {
        if (!description.knows(type) || !description.knows(face)) {
            return UNKNOWN;
        }
        if (!description.types[face].isFace) {
            return OUTSIDE;
        }
        if (worldCount > 0) {
            return STATE;
        }
        Type one = description.types[type];
        if (one.faceCount >= MAX_FACES) {
            return FULL;
        }
        if (one.isUnder(face) || face == type || description.leadsTo(face, type)) {
            return NO;
        }
        description.putUnder(type, face);
        return one.faceCount;
    }

    public int field(int type, int name, boolean constant, int value) {
        int refusal = refusalOfMember(type, name);
        if (refusal != 0) {
            return refusal;
        }
        Type one = description.types[type];
        if (one.fieldCount >= MAX_FIELDS) {
            return FULL;
        }
        if (one.fieldKinds[name] != ABSENT) {
            return NO;
        }
        one.addField(name, constant, value);
        description.forgetFields();
        return one.fieldCount;
    }

    public int method(int type, int name) {
        int refusal = refusalOfMember(type, name);
        if (refusal != 0) {
            return refusal;
        }
        Type one = description.types[type];
        if (one.methodCount >= MAX_METHODS) {
            return FULL;
        }
        if (one.methods[name] != null) {
            return NO;
        }
        one.addMethod(name);
        return one.methodCount;
    }

    /** What a FIELD or METHOD is refused by, whatever the TYPE has; 0: nothing. */
    private int refusalOfMember(int type, int name) {
        if (!description.knows(type)) {
            return UNKNOWN;
        }
        if (!isName(name)) {
            return OUTSIDE;
        }
        return worldCount > 0 ? STATE : 0;
    }

    public int act(int type, int method, int kind, int t, int n, int v) {
        if (!description.knows(type) || (usesType(kind) && !description.knows(t))) {
            return UNKNOWN;
        }
        if (kind < MARK || kind > CATCH || (usesName(kind) && !isName(n)) || !fitsValue(kind, v)) {
            return OUTSIDE;
        }
        if (worldCount > 0) {
            return STATE;
        }
        Body body = description.types[type].bodyOf(method);
        if (body == null) {
            return NO;
        }
        return body.size >= MAX_ACTIONS ? FULL : body.append(new Action(kind, t, n, v));
    }

    public int told(int type, int what) {
        if (what < 0 || what > 9) {
            return OUTSIDE;
        }
        if (what == 0) {
            return description.count;
        }
        if (what == 1) {
            return worldCount;
        }
        if (!description.knows(type)) {
            return UNKNOWN;
        }
        return what == 9 ? description.countLeading(type) : description.types[type].tell(what);
    }

    public int below(int type, int other) {
        if (!description.knows(type) || !description.knows(other)) {
            return UNKNOWN;
        }
        return description.leadsTo(type, other) ? 1 : 0;
    }

    public int found(int type, int name, boolean method) {
        if (!description.knows(type)) {
            return UNKNOWN;
        }
        if (!isName(name)) {
            return OUTSIDE;
        }
        return method ? description.methodOwner(type, name) : description.fieldOwner(type, name);
    }

    public int asks(int type, int i) {
        if (!description.knows(type)) {
            return UNKNOWN;
        }
        description.listAsked(type);
        return i >= 0 && i < description.askedCount ? description.asked[i] : NONE;
    }

    public int round(int i) {
        return i < 0 ? NONE : description.inRound(i);
    }

    // ---- 2 worlds

    public int world() {
        if (worldCount >= MAX_WORLDS) {
            return FULL;
        }
        if (description.count == 0) {
            return NO;
        }
        if (worlds[worldCount] == null) {
            worlds[worldCount] = new World();
        } else {
            worlds[worldCount].clear();
        }
        worldCount++;
        return worldCount - 1;
    }

    public int gone() {
        int were = worldCount;
        worldCount = 0;
        return were;
    }

    public int touch(int world, int kind, int t, int n, int v) {
        int refusal = refusalOfTouch(world, kind, t, n);
        if (refusal != 0) {
            return refusal;
        }
        World one = worlds[world];
        ahead.takeStateOf(one);
        Doing doing = new Doing(description, one);
        int failure = doing.doTouch(new Action(kind, t, n, v));
        if (failure == OVER) {
            one.takeStateOf(ahead);
        }
        one.keepAccount(doing, failure);
        return comesTo(failure);
    }

    public int foretell(int world, int kind, int t, int n, int v) {
        int refusal = refusalOfTouch(world, kind, t, n);
        if (refusal != 0) {
            return refusal;
        }
        World one = worlds[world];
        ahead.takeStateOf(one);
        int failure = new Doing(description, one).doTouch(new Action(kind, t, n, v));
        one.takeStateOf(ahead);
        return comesTo(failure);
    }

    /** What a TOUCH, done or foretold, is refused by; 0: nothing. */
    private int refusalOfTouch(int world, int kind, int t, int n) {
        if (!isWorld(world) || !description.knows(t)) {
            return UNKNOWN;
        }
        if (kind < READ || kind > LOOK || (usesName(kind) && !isName(n))) {
            return OUTSIDE;
        }
        return 0;
    }

    /** What a TOUCH comes to by the FAILURE that it ends with. */
    private static int comesTo(int failure) {
        switch (failure) {
            case NONE:
                return 0;
            case FAILED_STARTED:
                return 1;
            case FAILED_SPOILED:
                return 2;
            case FAILED_RULED:
                return 3;
            case OVER:
                return 5;
            default:
                return 4;
        }
    }

    public int state(int world, int type) {
        if (!isWorld(world) || !description.knows(type)) {
            return UNKNOWN;
        }
        return worlds[world].states[type];
    }

    public int began(int world, int i) {
        if (!isWorld(world)) {
            return UNKNOWN;
        }
        World one = worlds[world];
        if (i == -1) {
            return one.rowCount;
        }
        return i >= 0 && i < one.rowCount ? one.row[i] : NONE;
    }

    public int tape(int world, int i) {
        if (!isWorld(world)) {
            return 0;
        }
        World one = worlds[world];
        if (i == -1) {
            return one.tapeCount;
        }
        return i >= 0 && i < one.tapeCount && i < TAPE_KEPT ? one.kept[i] : 0;
    }

    public int value(int world, int type, int name) {
        if (!isWorld(world) || !description.knows(type) || !isName(name)) {
            return 0;
        }
        int owner = description.fieldOwner(type, name);
        return owner == NONE ? 0 : description.valueOf(worlds[world], owner, name);
    }

    public int failed(int world, int i) {
        if (!isWorld(world)) {
            return UNKNOWN;
        }
        if (i < 0 || i > 1) {
            return OUTSIDE;
        }
        return i == 0 ? worlds[world].failure : worlds[world].failureOf;
    }

    public int spent(int world, int what) {
        if (!isWorld(world)) {
            return UNKNOWN;
        }
        return what < 0 || what > 3 ? OUTSIDE : worlds[world].account[what];
    }

    public int many(int world, int state) {
        if (!isWorld(world)) {
            return UNKNOWN;
        }
        if (state < UNTOUCHED || state > SPOILED) {
            return OUTSIDE;
        }
        int count = 0;
        for (int type = 0; type < description.count; type++) {
            if (worlds[world].states[type] == state) {
                count++;
            }
        }
        return count;
    }

    public int differs(int world, int other) {
        if (!isWorld(world) || !isWorld(other)) {
            return UNKNOWN;
        }
        for (int type = 0; type < description.count; type++) {
            if (!worlds[world].sameIn(worlds[other], type)) {
                return type;
            }
        }
        return NONE;
    }

    private boolean isWorld(int world) {
        return world >= 0 && world < worldCount;
    }

    private static boolean isName(int name) {
        return name >= 0 && name < NAMES;
    }

    private static boolean usesType(int kind) {
        return kind >= READ && kind <= LOOK;
    }

    private static boolean usesName(int kind) {
        return kind >= READ && kind <= CALL;
    }

    private static boolean fitsValue(int kind, int v) {
        if (kind == THROW) {
            return v >= 0 && v < FAILED_STARTED;
        }
        return kind != CATCH || (v >= CATCH_ANY && v <= FAILED_RULED);
    }

    /** One ACTION of a BODY, or the one that a TOUCH does. */
    private static final class Action {
        final int kind;
        final int type;
        final int name;
        final int value;

        Action(int kind, int type, int name, int value) {
            this.kind = kind;
            this.type = type;
            this.name = name;
            this.value = value;
        }
    }

    /** The ACTIONS of a METHOD or of a START. */
    private static final class Body {
        final Action[] actions = new Action[MAX_ACTIONS];
        int size;

        int append(Action action) {
            if (size < MAX_ACTIONS) {
                actions[size] = action;
                size++;
            }
            return size;
        }
    }

    /** A CLASS or a FACE with what it has of its own. */
    private static final class Type {
        final boolean isFace;
        /** A CLASS: whether it is OPEN; a FACE: whether it has a DEFAULT. */
        final boolean special;
        final int above;
        final int[] faces = new int[MAX_FACES];
        int faceCount;
        /** A bit for each TYPE that this one is BELOW. */
        long leads;
        final int[] fieldKinds = new int[NAMES];
        final int[] constants = new int[NAMES];
        int fieldCount;
        final Body[] methods = new Body[NAMES];
        int methodCount;
        final Body start = new Body();
        /** The FACES that its start starts; its own row, as other starts come within its start. */
        final int[] firsts = new int[MAX_TYPES];
        int firstCount;

        Type(boolean isFace, boolean special, int above) {
            this.isFace = isFace;
            this.special = special;
            this.above = above;
        }

        boolean isUnder(int face) {
            for (int i = 0; i < faceCount; i++) {
                if (faces[i] == face) {
                    return true;
                }
            }
            return false;
        }

        void addField(int name, boolean constant, int value) {
            fieldKinds[name] = constant ? CONSTANT : PLAIN;
            constants[name] = value;
            fieldCount++;
        }

        void addMethod(int name) {
            methods[name] = new Body();
            methodCount++;
        }

        /** The BODY of a METHOD of its own or of the START; null: there is none. */
        Body bodyOf(int method) {
            if (method == START) {
                return start;
            }
            return isName(method) ? methods[method] : null;
        }

        /** The answers of told from 2 to 8. */
        int tell(int what) {
            switch (what) {
                case 2:
                    return isFace ? 1 : 0;
                case 3:
                    return special ? 1 : 0;
                case 4:
                    return above;
                case 5:
                    return faceCount;
                case 6:
                    return fieldCount;
                case 7:
                    return methodCount;
                default:
                    return start.size;
            }
        }
    }

    /** All TYPES, and what follows from their description alone. */
    private static final class Description {
        final Type[] types = new Type[MAX_TYPES];
        int count;
        /** A memo: without it, FACES of FACES could be gone through more often than can be waited for. */
        final int[] fieldOwners = new int[MAX_TYPES * NAMES];
        /** What listAsked wrote last, and a bit for each TYPE that it wouldn't write (again). */
        final int[] asked = new int[MAX_TYPES];
        int askedCount;
        long askedBits;
        /** A row of bits for each TYPE, for inRound. */
        final long[] ways = new long[MAX_TYPES];

        Description() {
            Arrays.fill(fieldOwners, NOT_SOUGHT);
        }

        boolean knows(int type) {
            return type >= 0 && type < count;
        }

        int append(Type type) {
            if (type.above >= 0) {
                type.leads = (1L << type.above) | types[type.above].leads;
            }
            types[count] = type;
            count++;
            return count - 1;
        }

        boolean leadsTo(int type, int other) {
            return ((types[type].leads >> other) & 1L) != 0;
        }

        int countLeading(int other) {
            int leading = 0;
            for (int type = 0; type < count; type++) {
                if (leadsTo(type, other)) {
                    leading++;
                }
            }
            return leading;
        }

        void putUnder(int type, int face) {
            Type one = types[type];
            one.faces[one.faceCount] = face;
            one.faceCount++;
            long gained = (1L << face) | types[face].leads;
            for (int i = 0; i < count; i++) {
                if (i == type || leadsTo(i, type)) {
                    types[i].leads |= gained;
                }
            }
            forgetFields();
        }

        void forgetFields() {
            Arrays.fill(fieldOwners, NOT_SOUGHT);
        }

        /** The TYPE that has the FIELD which is FOUND, or NONE. */
        int fieldOwner(int type, int name) {
            return seekField(type, name, 0);
        }

        /** No way by ABOVE and UNDER is longer than the TYPES are many. */
        private int seekField(int type, int name, int depth) {
            if (depth >= MAX_TYPES) {
                return NONE;
            }
            int place = type * NAMES + name;
            if (fieldOwners[place] != NOT_SOUGHT) {
                return fieldOwners[place];
            }
            Type one = types[type];
            int owner = one.fieldKinds[name] != ABSENT ? type : NONE;
            for (int i = 0; i < one.faceCount && owner == NONE; i++) {
                owner = seekField(one.faces[i], name, depth + 1);
            }
            if (owner == NONE && one.above >= 0) {
                owner = seekField(one.above, name, depth + 1);
            }
            fieldOwners[place] = owner;
            return owner;
        }

        /** The TYPE that has the METHOD which is FOUND, or NONE; a FACE has none ABOVE it. */
        int methodOwner(int type, int name) {
            int at = type;
            for (int step = 0; step < MAX_TYPES && at >= 0; step++) {
                if (types[at].methods[name] != null) {
                    return at;
                }
                at = types[at].above;
            }
            return NONE;
        }

        /** The value that a FIELD of its owner has in a WORLD. */
        int valueOf(World world, int owner, int name) {
            Type one = types[owner];
            return one.fieldKinds[name] == CONSTANT ? one.constants[name] : world.values[owner * NAMES + name];
        }

        /** The TYPE that an ACTION starts first; NONE: it starts none; RULED_OUT: it can't be. */
        int startedBy(Action action) {
            switch (action.kind) {
                case READ:
                case WRITE:
                    return startedByField(action);
                case CALL:
                    int owner = methodOwner(action.type, action.name);
                    return owner == NONE ? RULED_OUT : owner;
                case MAKE:
                    Type made = types[action.type];
                    return made.isFace || made.special ? RULED_OUT : action.type;
                case ASK:
                    return action.type;
                default:
                    return NONE;
            }
        }

        private int startedByField(Action action) {
            int owner = fieldOwner(action.type, action.name);
            if (owner == NONE) {
                return RULED_OUT;
            }
            if (types[owner].fieldKinds[action.name] == PLAIN) {
                return owner;
            }
            return action.kind == READ ? NONE : RULED_OUT;
        }

        /** Writes the FACES that the start of a CLASS starts into its row, in their order. */
        void orderFirsts(Type one) {
            one.firstCount = 0;
            long seen = 0;
            for (int i = 0; i < one.faceCount; i++) {
                seen = addFirst(one, one.faces[i], seen, 0);
            }
        }

        /**
         * Adds a FACE behind its own FACES, and answers which were seen. One that was seen is left
         * out: it could only be found started, and the ways to it may be too many.
         */
        private long addFirst(Type one, int face, long seen, int depth) {
            if (depth >= MAX_TYPES || ((seen >> face) & 1L) != 0) {
                return seen;
            }
            Type other = types[face];
            long now = seen | (1L << face);
            for (int i = 0; i < other.faceCount; i++) {
                now = addFirst(one, other.faces[i], now, depth + 1);
            }
            if (other.special && one.firstCount < MAX_TYPES) {
                one.firsts[one.firstCount] = face;
                one.firstCount++;
            }
            return now;
        }

        /** Writes the TYPES that the START of a TYPE asks for into asked. */
        void listAsked(int type) {
            Type one = types[type];
            askedCount = 0;
            askedBits = 1L << type;
            if (!one.isFace) {
                addAsked(one.above);
                orderFirsts(one);
                for (int i = 0; i < one.firstCount; i++) {
                    addAsked(one.firsts[i]);
                }
            }
            for (int i = 0; i < one.start.size; i++) {
                addAsked(startedBy(one.start.actions[i]));
            }
        }

        private void addAsked(int type) {
            if (type >= 0 && askedCount < MAX_TYPES && ((askedBits >> type) & 1L) == 0) {
                asked[askedCount] = type;
                askedCount++;
                askedBits |= 1L << type;
            }
        }

        /** The i-th TYPE, by numbers, that a way of asking leads back to, or NONE. */
        int inRound(int i) {
            for (int type = 0; type < count; type++) {
                listAsked(type);
                ways[type] = askedBits & ~(1L << type);
            }
            for (int by = 0; by < count; by++) {
                for (int type = 0; type < count; type++) {
                    if (((ways[type] >> by) & 1L) != 0) {
                        ways[type] |= ways[by];
                    }
                }
            }
            int before = 0;
            for (int type = 0; type < count; type++) {
                if (((ways[type] >> type) & 1L) != 0) {
                    if (before == i) {
                        return type;
                    }
                    before++;
                }
            }
            return NONE;
        }
    }

    /** A WORLD: how far its TYPES are, and how its latest TOUCH went. */
    private static final class World {
        final int[] states = new int[MAX_TYPES];
        final int[] values = new int[MAX_TYPES * NAMES];
        final int[] kept = new int[TAPE_KEPT];
        int tapeCount;
        final int[] row = new int[MAX_TYPES];
        int rowCount;
        int failure = NONE;
        int failureOf = NONE;
        final int[] account = new int[4];

        void clear() {
            Arrays.fill(states, UNTOUCHED);
            Arrays.fill(values, 0);
            tapeCount = 0;
            rowCount = 0;
            failure = NONE;
            failureOf = NONE;
            Arrays.fill(account, 0);
        }

        /**
         * Takes over how far another WORLD is, not how its latest TOUCH went. THE TAPE and THE ROW
         * only grow, so that to go back to an earlier state their lengths are enough.
         */
        void takeStateOf(World other) {
            System.arraycopy(other.states, 0, states, 0, MAX_TYPES);
            System.arraycopy(other.values, 0, values, 0, MAX_TYPES * NAMES);
            tapeCount = other.tapeCount;
            rowCount = other.rowCount;
        }

        void putOnTape(int value) {
            if (tapeCount < TAPE_KEPT) {
                kept[tapeCount] = value;
            }
            tapeCount++;
        }

        void putInRow(int type) {
            if (rowCount < MAX_TYPES) {
                row[rowCount] = type;
                rowCount++;
            }
        }

        void keepAccount(Doing doing, int ended) {
            boolean hasFailed = ended != NONE && ended != OVER;
            failure = hasFailed ? ended : NONE;
            failureOf = hasFailed ? doing.failureOf : NONE;
            account[0] = doing.actions;
            account[1] = doing.mostBodies;
            account[2] = doing.failures;
            account[3] = doing.starts;
        }

        boolean sameIn(World other, int type) {
            if (states[type] != other.states[type]) {
                return false;
            }
            for (int place = type * NAMES; place < (type + 1) * NAMES; place++) {
                if (values[place] != other.values[place]) {
                    return false;
                }
            }
            return true;
        }
    }

    /**
     * One TOUCH in a WORLD, and what it spends. Its methods answer the number of the FAILURE that
     * they end with, NONE or OVER. They call one another; how many BODIES and starts stand open is
     * carried along: at most 30 BODIES by the limit, at most 40 starts, as no TYPE has two.
     */
    private static final class Doing {
        final Description description;
        final World world;
        int actions;
        int mostBodies;
        int failures;
        int starts;
        /** Of the FAILURE that arose last: the THROWN one of STARTED, the TYPE of SPOILED. */
        int failureOf = NONE;

        Doing(Description description, World world) {
            this.description = description;
            this.world = world;
        }

        int doTouch(Action action) {
            actions = 1;
            return perform(action, 0, 0);
        }

        /** Does an ACTION that is counted already and is no CATCH. */
        private int perform(Action action, int openBodies, int openStarts) {
            if (action.kind == THROW) {
                return arise(action.value, NONE);
            }
            int first = description.startedBy(action);
            if (first == RULED_OUT) {
                return arise(FAILED_RULED, NONE);
            }
            int failure = first >= 0 ? startType(first, openBodies, openStarts) : NONE;
            if (failure != NONE) {
                return failure;
            }
            if (action.kind == CALL && first >= 0) {
                return runBody(description.types[first].bodyOf(action.name), openBodies, openStarts);
            }
            putThrough(action);
            return NONE;
        }

        /** What comes about by an ACTION that does no BODY, behind what it starts. */
        private void putThrough(Action action) {
            if (action.kind == MARK) {
                world.putOnTape(action.value);
            } else if (action.kind == READ || action.kind == WRITE) {
                int owner = description.fieldOwner(action.type, action.name);
                if (owner != NONE && action.kind == READ) {
                    world.putOnTape(description.valueOf(world, owner, action.name));
                } else if (owner != NONE) {
                    world.values[owner * NAMES + action.name] = action.value;
                }
            }
        }

        private int arise(int failure, int of) {
            failures++;
            failureOf = of;
            return failures > MOST_FAILURES ? OVER : failure;
        }

        private int startType(int type, int openBodies, int openStarts) {
            int state = world.states[type];
            if (state == SPOILED) {
                return arise(FAILED_SPOILED, type);
            }
            if (state != UNTOUCHED) {
                return NONE;
            }
            if (openStarts >= MAX_TYPES) {
                return OVER;
            }
            world.states[type] = UNDER_WAY;
            int failure = startFirsts(description.types[type], openBodies, openStarts + 1);
            if (failure == NONE) {
                failure = runStart(type, openBodies, openStarts + 1);
            }
            if (failure >= 0 && failure < FAILED_STARTED) {
                failure = arise(FAILED_STARTED, failure);
            }
            world.states[type] = failure == NONE ? DONE : SPOILED;
            return failure;
        }

        /** Starts what is started ahead of the BODY of a TYPE's START. */
        private int startFirsts(Type one, int openBodies, int openStarts) {
            if (one.isFace) {
                return NONE;
            }
            int failure = one.above >= 0 ? startType(one.above, openBodies, openStarts) : NONE;
            description.orderFirsts(one);
            for (int i = 0; i < one.firstCount && failure == NONE; i++) {
                failure = startType(one.firsts[i], openBodies, openStarts);
            }
            return failure;
        }

        private int runStart(int type, int openBodies, int openStarts) {
            if (openBodies >= MOST_WITHIN) {
                return OVER;
            }
            world.putInRow(type);
            starts++;
            return runBody(description.types[type].start, openBodies, openStarts);
        }

        /** Does a BODY. CATCHES in a row lead to the ACTION behind the last one: all of them see its FAILURE. */
        private int runBody(Body body, int openBodies, int openStarts) {
            if (body == null || openBodies >= MOST_WITHIN) {
                return OVER;
            }
            mostBodies = Math.max(mostBodies, openBodies + 1);
            int firstCatch = 0;
            for (int i = 0; i < body.size; i++) {
                if (actions >= MOST_DONE) {
                    return OVER;
                }
                actions++;
                Action action = body.actions[i];
                if (action.kind != CATCH) {
                    int failure = perform(action, openBodies + 1, openStarts);
                    failure = takeFailure(body, firstCatch, i, failure);
                    if (failure != NONE) {
                        return failure;
                    }
                    firstCatch = i + 1;
                }
            }
            return NONE;
        }

        /** What is left of the FAILURE of the ACTION at a place by the CATCHES ahead of it, the nearest first. */
        private int takeFailure(Body body, int firstCatch, int place, int failure) {
            if (failure == NONE || failure == OVER) {
                return failure;
            }
            for (int i = place - 1; i >= firstCatch; i--) {
                int taken = body.actions[i].value;
                if (taken == CATCH_ANY || taken == failure) {
                    world.putOnTape(CAUGHT + failure);
                    return NONE;
                }
            }
            return failure;
        }
    }
}
