import java.util.ArrayList;
import java.util.Arrays;
import java.util.List;
import java.util.Map;
import java.util.TreeMap;

/**
 * A second bench, written for itself from the document, as plainly as Java's library and exceptions
 * allow, slow and without memory of what it found. ModelTest holds the program against it.
 */
final class Model extends Numbers {
    private final List<Kind> types = new ArrayList<>();
    private final List<Place> worlds = new ArrayList<>();

    /** A TYPE. */
    private static final class Kind {
        boolean isFace;
        boolean flag;
        int above = NONE;
        final List<Integer> faces = new ArrayList<>();
        /** By NAME: the constant's value, null for a plain one. */
        final Map<Integer, Integer> fields = new TreeMap<>();
        /** By NAME, the START by -1. */
        final Map<Integer, List<int[]>> bodies = new TreeMap<>();

        Kind() {
            bodies.put(-1, new ArrayList<>());
        }
    }

    /** A WORLD. */
    private static final class Place {
        int[] states;
        Map<String, Integer> values = new TreeMap<>();
        List<Integer> tape = new ArrayList<>();
        List<Integer> row = new ArrayList<>();
        int[] latest = {NONE, NONE};
        int[] spent = new int[4];

        Place copy() {
            Place other = new Place();
            other.states = states.clone();
            other.values = new TreeMap<>(values);
            other.tape = new ArrayList<>(tape);
            other.row = new ArrayList<>(row);
            other.latest = latest.clone();
            other.spent = spent.clone();
            return other;
        }
    }

    private static final class Failure extends Exception {
        private static final long serialVersionUID = 1L;
        final int number;
        final int of;

        Failure(int number, int of) {
            super(null, null, false, false);
            this.number = number;
            this.of = of;
        }
    }

    private static final class Over extends RuntimeException {
        private static final long serialVersionUID = 1L;

        Over() {
            super(null, null, false, false);
        }
    }

    private boolean noType(int type) {
        return type < 0 || type >= types.size();
    }

    private boolean noWorld(int world) {
        return world < 0 || world >= worlds.size();
    }

    private static boolean noName(int name) {
        return name < 0 || name > 9;
    }

    private int add(boolean isFace, boolean flag, int above) {
        if (!worlds.isEmpty()) {
            return STATE;
        }
        if (types.size() == 40) {
            return FULL;
        }
        Kind kind = new Kind();
        kind.isFace = isFace;
        kind.flag = flag;
        kind.above = above;
        types.add(kind);
        return types.size() - 1;
    }

    int cls(int above, boolean open) {
        if (above == -1) {
            return add(false, open, NONE);
        }
        if (noType(above)) {
            return UNKNOWN;
        }
        return types.get(above).isFace ? OUTSIDE : add(false, open, above);
    }

    int face(boolean hasDefault) {
        return add(true, hasDefault, NONE);
    }

    int under(int type, int face) {
        if (noType(type) || noType(face)) {
            return UNKNOWN;
        }
        if (!types.get(face).isFace) {
            return OUTSIDE;
        }
        if (!worlds.isEmpty()) {
            return STATE;
        }
        List<Integer> faces = types.get(type).faces;
        if (faces.size() == 4) {
            return FULL;
        }
        if (faces.contains(face) || face == type || leads(face, type)) {
            return NO;
        }
        faces.add(face);
        return faces.size();
    }

    int field(int type, int name, boolean constant, int value) {
        if (noType(type)) {
            return UNKNOWN;
        }
        if (noName(name)) {
            return OUTSIDE;
        }
        if (!worlds.isEmpty()) {
            return STATE;
        }
        Map<Integer, Integer> fields = types.get(type).fields;
        if (fields.size() == 6) {
            return FULL;
        }
        if (fields.containsKey(name)) {
            return NO;
        }
        fields.put(name, constant ? value : null);
        return fields.size();
    }

    int method(int type, int name) {
        if (noType(type)) {
            return UNKNOWN;
        }
        if (noName(name)) {
            return OUTSIDE;
        }
        if (!worlds.isEmpty()) {
            return STATE;
        }
        Map<Integer, List<int[]>> bodies = types.get(type).bodies;
        if (bodies.size() == 5) {
            return FULL;
        }
        if (bodies.containsKey(name)) {
            return NO;
        }
        bodies.put(name, new ArrayList<>());
        return bodies.size() - 1;
    }

    int act(int type, int method, int kind, int t, int n, int v) {
        boolean usesT = kind > 0 && kind < 7;
        if (noType(type) || usesT && noType(t)) {
            return UNKNOWN;
        }
        boolean badName = kind > 0 && kind < 4 && noName(n);
        boolean badThrow = kind == THROW && (v < 0 || v > 19);
        boolean badCatch = kind == CATCH && (v < -1 || v > 22);
        if (kind < 0 || kind > 8 || badName || badThrow || badCatch) {
            return OUTSIDE;
        }
        if (!worlds.isEmpty()) {
            return STATE;
        }
        List<int[]> body = types.get(type).bodies.get(method);
        if (body == null) {
            return NO;
        }
        if (body.size() == 12) {
            return FULL;
        }
        body.add(new int[] {kind, t, n, v});
        return body.size();
    }

    int told(int type, int what) {
        if (what < 0 || what > 9) {
            return OUTSIDE;
        }
        if (what < 2) {
            return what == 0 ? types.size() : worlds.size();
        }
        if (noType(type)) {
            return UNKNOWN;
        }
        Kind kind = types.get(type);
        int leading = 0;
        for (int i = 0; i < types.size(); i++) {
            leading += leads(i, type) ? 1 : 0;
        }
        int[] rows = {kind.isFace ? 1 : 0, kind.flag ? 1 : 0, kind.above, kind.faces.size(), kind.fields.size(),
            kind.bodies.size() - 1, kind.bodies.get(-1).size(), leading};
        return rows[what - 2];
    }

    /** Whether a TYPE is BELOW another, by going up from it step by step. */
    private boolean leads(int type, int other) {
        List<Integer> reached = new ArrayList<>();
        reached.add(type);
        for (int i = 0; i < reached.size(); i++) {
            Kind kind = types.get(reached.get(i));
            List<Integer> next = new ArrayList<>(kind.faces);
            if (kind.above != NONE) {
                next.add(kind.above);
            }
            for (int one : next) {
                if (one == other) {
                    return true;
                }
                if (!reached.contains(one)) {
                    reached.add(one);
                }
            }
        }
        return false;
    }

    int below(int type, int other) {
        if (noType(type) || noType(other)) {
            return UNKNOWN;
        }
        return leads(type, other) ? 1 : 0;
    }

    int found(int type, int name, boolean method) {
        if (noType(type)) {
            return UNKNOWN;
        }
        if (noName(name)) {
            return OUTSIDE;
        }
        return method ? methodOf(type, name) : fieldOf(type, name);
    }

    private int fieldOf(int type, int name) {
        if (types.get(type).fields.containsKey(name)) {
            return type;
        }
        for (int face : types.get(type).faces) {
            int by = fieldOf(face, name);
            if (by != NONE) {
                return by;
            }
        }
        return types.get(type).above == NONE ? NONE : fieldOf(types.get(type).above, name);
    }

    private int methodOf(int type, int name) {
        if (types.get(type).bodies.containsKey(name)) {
            return type;
        }
        return types.get(type).above == NONE ? NONE : methodOf(types.get(type).above, name);
    }

    /** Which TYPE an ACTION starts first, or NONE; a Failure if it can't be. */
    private int startedFirst(int[] action) throws Failure {
        int t = action[1];
        int n = action[2];
        switch (action[0]) {
            case READ:
            case WRITE:
                int has = fieldOf(t, n);
                if (has == NONE || types.get(has).fields.get(n) != null && action[0] == WRITE) {
                    throw new Failure(22, NONE);
                }
                return types.get(has).fields.get(n) == null ? has : NONE;
            case CALL:
                if (methodOf(t, n) == NONE) {
                    throw new Failure(22, NONE);
                }
                return methodOf(t, n);
            case MAKE:
                if (types.get(t).isFace || types.get(t).flag) {
                    throw new Failure(22, NONE);
                }
                return t;
            case ASK:
                return t;
            default:
                return NONE;
        }
    }

    /** The FACES with a DEFAULT that a TYPE's start comes to, in order, with all repetitions. */
    private List<Integer> facesToStart(int type) {
        List<Integer> order = new ArrayList<>();
        for (int face : types.get(type).faces) {
            order.addAll(facesToStart(face));
            if (types.get(face).flag) {
                order.add(face);
            }
        }
        return order;
    }

    private List<Integer> asked(int type) {
        List<Integer> all = new ArrayList<>();
        Kind kind = types.get(type);
        if (!kind.isFace) {
            all.add(kind.above);
            all.addAll(facesToStart(type));
        }
        for (int[] action : kind.bodies.get(-1)) {
            try {
                all.add(startedFirst(action));
            } catch (Failure ruled) {
                all.add(NONE);
            }
        }
        List<Integer> each = new ArrayList<>();
        for (int one : all) {
            if (one != NONE && one != type && !each.contains(one)) {
                each.add(one);
            }
        }
        return each;
    }

    int asks(int type, int i) {
        if (noType(type)) {
            return UNKNOWN;
        }
        List<Integer> all = asked(type);
        return i < 0 || i >= all.size() ? NONE : all.get(i);
    }

    int round(int i) {
        List<Integer> all = new ArrayList<>();
        for (int type = 0; type < types.size(); type++) {
            List<Integer> reached = new ArrayList<>(asked(type));
            for (int j = 0; j < reached.size(); j++) {
                for (int next : asked(reached.get(j))) {
                    if (!reached.contains(next)) {
                        reached.add(next);
                    }
                }
            }
            if (reached.contains(type)) {
                all.add(type);
            }
        }
        return i < 0 || i >= all.size() ? NONE : all.get(i);
    }

    int world() {
        if (worlds.size() == 12) {
            return FULL;
        }
        if (types.isEmpty()) {
            return NO;
        }
        Place place = new Place();
        place.states = new int[types.size()];
        worlds.add(place);
        return worlds.size() - 1;
    }

    int gone() {
        int were = worlds.size();
        worlds.clear();
        return were;
    }

    int touch(int world, int kind, int t, int n, int v) {
        if (noWorld(world) || noType(t)) {
            return UNKNOWN;
        }
        if (kind < 1 || kind > 6 || kind < 4 && noName(n)) {
            return OUTSIDE;
        }
        Place ahead = worlds.get(world).copy();
        Run run = new Run(worlds.get(world));
        int came;
        run.place.latest = new int[] {NONE, NONE};
        try {
            run.act(new int[] {kind, t, n, v}, 0);
            came = 0;
        } catch (Over over) {
            worlds.set(world, ahead);
            ahead.latest = new int[] {NONE, NONE};
            came = 5;
        } catch (Failure failure) {
            run.place.latest = new int[] {failure.number, failure.of};
            came = failure.number < 20 ? 4 : failure.number - 19;
        }
        worlds.get(world).spent = run.spent;
        return came;
    }

    int foretell(int world, int kind, int t, int n, int v) {
        if (noWorld(world)) {
            return UNKNOWN;
        }
        Place ahead = worlds.get(world).copy();
        int came = touch(world, kind, t, n, v);
        worlds.set(world, ahead);
        return came;
    }

    /** One TOUCH. */
    private final class Run {
        final Place place;
        final int[] spent = new int[4];

        Run(Place place) {
            this.place = place;
        }

        private Failure arisen(int number, int of) {
            spent[2]++;
            if (spent[2] > 40) {
                throw new Over();
            }
            return new Failure(number, of);
        }

        void act(int[] action, int within) throws Failure {
            if (spent[0] == 1000) {
                throw new Over();
            }
            spent[0]++;
            int first;
            try {
                first = action[0] == THROW || action[0] == CATCH ? NONE : startedFirst(action);
            } catch (Failure ruled) {
                throw arisen(22, NONE);
            }
            if (first != NONE) {
                start(first, within);
            }
            int has = action[0] == READ || action[0] == WRITE ? fieldOf(action[1], action[2]) : NONE;
            switch (action[0]) {
                case MARK:
                    place.tape.add(action[3]);
                    break;
                case READ:
                    place.tape.add(read(has, action[2]));
                    break;
                case WRITE:
                    place.values.put(has + "." + action[2], action[3]);
                    break;
                case CALL:
                    body(types.get(first).bodies.get(action[2]), within);
                    break;
                case THROW:
                    throw arisen(action[3], NONE);
                default:
                    break;
            }
        }

        private int read(int has, int name) {
            Integer constant = types.get(has).fields.get(name);
            return constant != null ? constant : place.values.getOrDefault(has + "." + name, 0);
        }

        private void body(List<int[]> actions, int within) throws Failure {
            enter(within);
            int next = 0;
            while (next < actions.size()) {
                next = doOne(actions, next, within + 1);
            }
        }

        private void enter(int within) {
            if (within == 30) {
                throw new Over();
            }
            spent[1] = Math.max(spent[1], within + 1);
        }

        /** Does the ACTION at a place, and answers where the BODY goes on. */
        private int doOne(List<int[]> actions, int at, int within) throws Failure {
            int[] action = actions.get(at);
            act(action, within);
            if (action[0] != CATCH || at + 1 == actions.size()) {
                return at + 1;
            }
            try {
                return doOne(actions, at + 1, within);
            } catch (Failure failure) {
                if (action[3] != -1 && action[3] != failure.number) {
                    throw failure;
                }
                place.tape.add(1000 + failure.number);
                int behind = at + 1;
                while (behind < actions.size() && actions.get(behind)[0] == CATCH) {
                    behind++;
                }
                return behind + 1;
            }
        }

        private void start(int type, int within) throws Failure {
            if (place.states[type] == SPOILED) {
                throw arisen(21, type);
            }
            if (place.states[type] != UNTOUCHED) {
                return;
            }
            place.states[type] = UNDER_WAY;
            try {
                Kind kind = types.get(type);
                if (!kind.isFace) {
                    if (kind.above != NONE) {
                        start(kind.above, within);
                    }
                    for (int face : facesToStart(type)) {
                        start(face, within);
                    }
                }
                startBody(type, kind, within);
                place.states[type] = DONE;
            } catch (Failure failure) {
                place.states[type] = SPOILED;
                throw failure;
            }
        }

        private void startBody(int type, Kind kind, int within) throws Failure {
            enter(within);
            place.row.add(type);
            spent[3]++;
            try {
                body(kind.bodies.get(-1), within);
            } catch (Failure failure) {
                throw failure.number < 20 ? arisen(20, failure.number) : failure;
            }
        }
    }

    int state(int world, int type) {
        return noWorld(world) || noType(type) ? UNKNOWN : worlds.get(world).states[type];
    }

    int began(int world, int i) {
        if (noWorld(world)) {
            return UNKNOWN;
        }
        List<Integer> row = worlds.get(world).row;
        if (i == -1) {
            return row.size();
        }
        return i < 0 || i >= row.size() ? NONE : row.get(i);
    }

    int tape(int world, int i) {
        if (noWorld(world)) {
            return 0;
        }
        List<Integer> tape = worlds.get(world).tape;
        if (i == -1) {
            return tape.size();
        }
        return i < 0 || i >= Math.min(300, tape.size()) ? 0 : tape.get(i);
    }

    int value(int world, int type, int name) {
        if (noWorld(world) || noType(type) || noName(name)) {
            return 0;
        }
        int has = fieldOf(type, name);
        return has == NONE ? 0 : new Run(worlds.get(world)).read(has, name);
    }

    int failed(int world, int i) {
        if (noWorld(world)) {
            return UNKNOWN;
        }
        return i == 0 || i == 1 ? worlds.get(world).latest[i] : OUTSIDE;
    }

    int spent(int world, int what) {
        if (noWorld(world)) {
            return UNKNOWN;
        }
        return what < 0 || what > 3 ? OUTSIDE : worlds.get(world).spent[what];
    }

    int many(int world, int state) {
        if (noWorld(world)) {
            return UNKNOWN;
        }
        if (state < 0 || state > 3) {
            return OUTSIDE;
        }
        return (int) Arrays.stream(worlds.get(world).states).filter(one -> one == state).count();
    }

    int differs(int world, int other) {
        if (noWorld(world) || noWorld(other)) {
            return UNKNOWN;
        }
        for (int type = 0; type < types.size(); type++) {
            boolean same = worlds.get(world).states[type] == worlds.get(other).states[type];
            for (int name : types.get(type).fields.keySet()) {
                same &= value(world, type, name) == value(other, type, name);
            }
            if (!same) {
                return type;
            }
        }
        return NONE;
    }
}
