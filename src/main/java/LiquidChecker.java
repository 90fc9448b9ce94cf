import java.util.Arrays;
import java.util.NoSuchElementException;

/**
 * A checker of refined functions: every way through a function is followed with the differences
 * of numbers that are known on it, and what is claimed, demanded and promised is held against them.
 */
public final class LiquidChecker {
    private static final int FUNCTIONS = 4;
    private static final int RELATIONS = 4;
    private static final int STATEMENTS = 16;
    private static final int IFS = 6;
    private static final int WAYS = 1 << IFS;
    private static final int GREATEST_K = 1000;

    private static final int NAMES = 12;
    private static final int ZERO = 0;
    private static final int FIRST_PARAMETER = 1;
    private static final int SECOND_PARAMETER = 2;
    private static final int RESULT = 3;
    private static final int FIRST_GIVEN = 4;

    private static final int DEMAND = 0;
    private static final int PROMISE = 1;

    private static final int GIVE = 0;
    private static final int CALL = 1;
    private static final int IF = 2;
    private static final int ELSE = 3;
    private static final int END = 4;
    private static final int CLAIM = 5;
    private static final int RETURN = 6;
    private static final int ANY = 7;

    private static final int COUNT_STATEMENTS = 0;
    private static final int COUNT_OPEN_IFS = 1;
    private static final int COUNT_DEMANDS = 2;
    private static final int COUNT_PROMISES = 3;

    private static final int NOWHERE = -1;

    private final Function[] functions = new Function[FUNCTIONS];
    private final Walk walk = new Walk();
    private final Known known = new Known();

    public LiquidChecker() {
        for (int i = 0; i < FUNCTIONS; i++) {
            functions[i] = new Function();
        }
    }

    public int refine(int function, int kind, int a, int b, int k)
            throws IllegalArgumentException, IllegalStateException {
        if (!isFunction(function) || !isWithin(kind, DEMAND, PROMISE)) {
            throw new IllegalArgumentException("no such function or kind");
        }
        int lastName = kind == DEMAND ? SECOND_PARAMETER : RESULT;
        if (!isWithin(a, ZERO, lastName) || !isWithin(b, ZERO, lastName) || !isDifference(k)) {
            throw new IllegalArgumentException("no such relation");
        }
        Relations relations = kind == DEMAND ? functions[function].demands : functions[function].promises;
        if (relations.size >= RELATIONS) {
            throw new IllegalStateException("no room for a relation more");
        }
        return relations.append(a, b, k);
    }

    public int statement(int function, int kind, int a, int b, int c, int k)
            throws IllegalArgumentException, UnsupportedOperationException, IllegalStateException {
        if (!isFunction(function) || !isStatement(kind, a, b, c, k)) {
            throw new IllegalArgumentException("no such function or statement");
        }
        Function changed = functions[function];
        if (!changed.hasGivenWhatIsUsed(kind, a, b, c) || !changed.isOpenFor(kind)) {
            throw new UnsupportedOperationException("a name not given, or an ELSE or END out of place");
        }
        if (!changed.hasRoomFor(kind)) {
            throw new IllegalStateException("no room for a statement more");
        }
        return changed.append(kind, a, b, c, k);
    }

    public int clear(int function) throws IllegalArgumentException {
        if (!isFunction(function)) {
            throw new IllegalArgumentException("no such function");
        }
        int had = functions[function].size;
        functions[function].empty();
        return had;
    }

    public int check(int function) throws IllegalArgumentException {
        if (!isFunction(function)) {
            throw new IllegalArgumentException("no such function");
        }
        walk.through(functions, functions[function], NOWHERE, ZERO, ZERO);
        return walk.leastUnshown;
    }

    public int ways(int function) throws IllegalArgumentException {
        if (!isFunction(function)) {
            throw new IllegalArgumentException("no such function");
        }
        walk.through(functions, functions[function], NOWHERE, ZERO, ZERO);
        return walk.ended;
    }

    public int comes(int function, int place) throws IllegalArgumentException {
        if (!isFunction(function) || !isPlace(function, place)) {
            throw new IllegalArgumentException("no such function or place");
        }
        walk.through(functions, functions[function], NOWHERE, ZERO, ZERO);
        return walk.cameTo(place) ? 1 : 0;
    }

    public int most(int function, int place, int a, int b)
            throws IllegalArgumentException, NoSuchElementException, ArithmeticException {
        if (!isFunction(function) || !isPlace(function, place) || !isUsable(a) || !isUsable(b)) {
            throw new IllegalArgumentException("no such function, place or name");
        }
        walk.through(functions, functions[function], place, a, b);
        if (!walk.cameTo(place)) {
            throw new NoSuchElementException("no feasible way comes there");
        }
        if (walk.greatest == Known.UNBOUNDED) {
            throw new ArithmeticException("as great as one likes");
        }
        return walk.greatest;
    }

    public int follows(int function, int from) throws IllegalArgumentException {
        if (!isFunction(function) || !isFunction(from)) {
            throw new IllegalArgumentException("no such function");
        }
        known.forgetAll();
        functions[function].demands.learnedBy(known, FIRST_PARAMETER, SECOND_PARAMETER);
        functions[from].promises.learnedBy(known, FIRST_PARAMETER, SECOND_PARAMETER);
        // Where no numbers are left there is nothing that could break a promise.
        boolean shown = !known.possible
                || functions[function].promises.shownBy(known, FIRST_PARAMETER, SECOND_PARAMETER);
        return shown ? 1 : 0;
    }

    public int count(int function, int what) throws IllegalArgumentException {
        if (!isFunction(function) || !isWithin(what, COUNT_STATEMENTS, COUNT_PROMISES)) {
            throw new IllegalArgumentException("no such function, or nothing to count");
        }
        Function counted = functions[function];
        switch (what) {
            case COUNT_STATEMENTS:
                return counted.size;
            case COUNT_OPEN_IFS:
                return counted.openIfs;
            case COUNT_DEMANDS:
                return counted.demands.size;
            default:
                return counted.promises.size;
        }
    }

    private boolean isPlace(int function, int place) {
        return isWithin(place, 0, functions[function].size);
    }

    private static boolean isWithin(int number, int least, int greatest) {
        return number >= least && number <= greatest;
    }

    private static boolean isFunction(int function) {
        return isWithin(function, 0, FUNCTIONS - 1);
    }

    private static boolean isDifference(int k) {
        return isWithin(k, -GREATEST_K, GREATEST_K);
    }

    private static boolean isGivable(int name) {
        return isWithin(name, FIRST_GIVEN, NAMES - 1);
    }

    private static boolean isUsable(int name) {
        return isWithin(name, ZERO, SECOND_PARAMETER) || isGivable(name);
    }

    private static boolean givesA(int kind) {
        return kind == GIVE || kind == CALL || kind == ANY;
    }

    private static boolean usesA(int kind) {
        return kind == IF || kind == CLAIM;
    }

    private static boolean usesB(int kind) {
        return kind == GIVE || kind == CALL || kind == IF || kind == CLAIM || kind == RETURN;
    }

    private static boolean usesC(int kind) {
        return kind == CALL;
    }

    private static boolean isStatement(int kind, int a, int b, int c, int k) {
        if (!isWithin(kind, GIVE, ANY)) {
            return false;
        }
        if (givesA(kind) && !isGivable(a)) {
            return false;
        }
        if (usesA(kind) && !isUsable(a) || usesB(kind) && !isUsable(b) || usesC(kind) && !isUsable(c)) {
            return false;
        }
        if (kind == CALL) {
            return isFunction(k);
        }
        return !usesB(kind) || isDifference(k);
    }

    /** Up to four relations of the number 0, the parameters and the result of a function. */
    private static final class Relations {
        private final int[] a = new int[RELATIONS];
        private final int[] b = new int[RELATIONS];
        private final int[] k = new int[RELATIONS];
        private int size;

        private int append(int newA, int newB, int newK) {
            a[size] = newA;
            b[size] = newB;
            k[size] = newK;
            size++;
            return size;
        }

        private void learnedBy(Known known, int first, int second) {
            for (int i = 0; i < size; i++) {
                known.learn(nameFor(a[i], first, second), nameFor(b[i], first, second), k[i]);
            }
        }

        private boolean shownBy(Known known, int first, int second) {
            for (int i = 0; i < size; i++) {
                if (!known.shows(nameFor(a[i], first, second), nameFor(b[i], first, second), k[i])) {
                    return false;
                }
            }
            return true;
        }

        private static int nameFor(int name, int first, int second) {
            if (name == FIRST_PARAMETER) {
                return first;
            }
            return name == SECOND_PARAMETER ? second : name;
        }
    }

    /** One statement, held in a row that is made once and written anew. */
    private static final class Statement {
        private int kind;
        private int a;
        private int b;
        private int c;
        private int k;
        /** Where an IF's other side goes on, or an ELSE's first side; NOWHERE while its END lacks. */
        private int leadsTo;

        private void write(int newKind, int newA, int newB, int newC, int newK) {
            kind = newKind;
            a = newA;
            b = newB;
            c = newC;
            k = newK;
            leadsTo = NOWHERE;
        }
    }

    /** A function: what it demands and promises, and its statements. */
    private static final class Function {
        private final Relations demands = new Relations();
        private final Relations promises = new Relations();
        private final Statement[] statements = new Statement[STATEMENTS];
        /** The places of the IFs that are open, or of their ELSEs where they have one. */
        private final int[] openPlaces = new int[IFS];
        private int size;
        private int openIfs;
        private int ifs;
        /** A bit for each name that a statement gives. */
        private int given;

        private Function() {
            for (int i = 0; i < STATEMENTS; i++) {
                statements[i] = new Statement();
            }
        }

        private void empty() {
            demands.size = 0;
            promises.size = 0;
            size = 0;
            openIfs = 0;
            ifs = 0;
            given = 0;
        }

        private boolean hasGivenWhatIsUsed(int kind, int a, int b, int c) {
            return (!usesA(kind) || hasGiven(a))
                    && (!usesB(kind) || hasGiven(b))
                    && (!usesC(kind) || hasGiven(c));
        }

        private boolean hasGiven(int name) {
            return name < FIRST_GIVEN || (given >> name & 1) == 1;
        }

        private boolean isOpenFor(int kind) {
            if (kind != ELSE && kind != END) {
                return true;
            }
            if (openIfs == 0) {
                return false;
            }
            return kind == END || statements[openPlaces[openIfs - 1]].kind == IF;
        }

        private boolean hasRoomFor(int kind) {
            return size < STATEMENTS && (kind != IF || ifs < IFS);
        }

        private int append(int kind, int a, int b, int c, int k) {
            int place = size;
            statements[place].write(kind, a, b, c, k);
            size++;
            if (givesA(kind)) {
                given |= 1 << a;
            }
            switch (kind) {
                case IF:
                    openIf(place);
                    break;
                case ELSE:
                    turnToElse(place);
                    break;
                case END:
                    closeIf(place);
                    break;
                default:
                    break;
            }
            return place;
        }

        private void openIf(int place) {
            openPlaces[openIfs] = place;
            openIfs++;
            ifs++;
        }

        private void turnToElse(int place) {
            statements[openPlaces[openIfs - 1]].leadsTo = place + 1;
            openPlaces[openIfs - 1] = place;
        }

        private void closeIf(int place) {
            openIfs--;
            statements[openPlaces[openIfs]].leadsTo = place;
        }

        private int targetOf(Statement statement) {
            return statement.leadsTo == NOWHERE ? size : statement.leadsTo;
        }
    }

    /**
     * All that is known of the differences of the names' numbers, always with all that follows
     * from it: then a relation is shown exactly if its bound is no greater than its k, and a name
     * that is given anew takes nothing away that the others still need.
     */
    private static final class Known {
        /** Above every sum of bounds that a function's few relations and statements can make. */
        private static final int UNBOUNDED = 1000000;

        /** At a * NAMES + b: the most that a - b can be. */
        private final int[] bounds = new int[NAMES * NAMES];
        /** Whether there are numbers for which all this holds; where not, the bounds mean nothing. */
        private boolean possible;

        private void forgetAll() {
            Arrays.fill(bounds, UNBOUNDED);
            for (int name = 0; name < NAMES; name++) {
                bounds[name * NAMES + name] = 0;
            }
            possible = true;
        }

        private void copyFrom(Known other) {
            System.arraycopy(other.bounds, 0, bounds, 0, bounds.length);
            possible = other.possible;
        }

        private int bound(int a, int b) {
            return bounds[a * NAMES + b];
        }

        private boolean shows(int a, int b, int k) {
            return bounds[a * NAMES + b] <= k;
        }

        private void learn(int a, int b, int k) {
            if (!possible || bounds[a * NAMES + b] <= k) {
                return;
            }
            int back = bounds[b * NAMES + a];
            if (back != UNBOUNDED && back + k < 0) {
                possible = false;
                return;
            }
            for (int from = 0; from < NAMES; from++) {
                int aboveA = bounds[from * NAMES + a];
                for (int to = 0; to < NAMES && aboveA != UNBOUNDED; to++) {
                    int belowB = bounds[b * NAMES + to];
                    if (belowB != UNBOUNDED && aboveA + k + belowB < bounds[from * NAMES + to]) {
                        bounds[from * NAMES + to] = aboveA + k + belowB;
                    }
                }
            }
        }

        /** From now on a names b + k; the two may be the same name. */
        private void give(int a, int b, int k) {
            for (int name = 0; name < NAMES; name++) {
                if (name != a) {
                    bounds[a * NAMES + name] = moved(bounds[b * NAMES + name], k);
                    bounds[name * NAMES + a] = moved(bounds[name * NAMES + b], -k);
                }
            }
        }

        private static int moved(int bound, int by) {
            return bound == UNBOUNDED ? UNBOUNDED : bound + by;
        }

        private void forget(int a) {
            for (int name = 0; name < NAMES; name++) {
                if (name != a) {
                    bounds[a * NAMES + name] = UNBOUNDED;
                    bounds[name * NAMES + a] = UNBOUNDED;
                }
            }
        }
    }

    /** Follows all ways of a function as far as they are feasible, and keeps what it has seen. */
    private static final class Walk {
        private final Known known = new Known();
        /** The other sides of IFs that are still to be followed, the newest last. */
        private final Known[] waiting = new Known[IFS];
        private final int[] waitingPlaces = new int[IFS];
        private int waitingSides;

        private int askedPlace;
        private int askedA;
        private int askedB;
        private int greatest;

        /** A bit for each place that a feasible way comes to. */
        private int placesCome;
        private int leastUnshown;
        private int ended;

        private Walk() {
            for (int i = 0; i < IFS; i++) {
                waiting[i] = new Known();
            }
        }

        private boolean cameTo(int place) {
            return (placesCome >> place & 1) == 1;
        }

        /** The difference a - b is asked at a place, or at NOWHERE. */
        private void through(Function[] functions, Function function, int place, int a, int b) {
            askedPlace = place;
            askedA = a;
            askedB = b;
            greatest = -Known.UNBOUNDED;
            placesCome = 0;
            leastUnshown = NOWHERE;
            ended = 0;
            waitingSides = 0;
            known.forgetAll();
            function.demands.learnedBy(known, FIRST_PARAMETER, SECOND_PARAMETER);
            int start = known.possible ? 0 : NOWHERE;
            for (int begun = 0; begun < WAYS && start != NOWHERE; begun++) {
                followFrom(start, functions, function);
                start = takeWaitingSide();
            }
        }

        private int takeWaitingSide() {
            if (waitingSides == 0) {
                return NOWHERE;
            }
            waitingSides--;
            known.copyFrom(waiting[waitingSides]);
            return waitingPlaces[waitingSides];
        }

        private void followFrom(int start, Function[] functions, Function function) {
            int place = start;
            // Every step leads to a later place, so none is left when all have been passed.
            for (int step = 0; step <= STATEMENTS && place != NOWHERE; step++) {
                comeTo(place);
                if (place >= function.size) {
                    endAt(place, function, ZERO, 0);
                    place = NOWHERE;
                } else {
                    place = pass(place, functions, function);
                }
            }
        }

        private void comeTo(int place) {
            placesCome |= 1 << place;
            if (place == askedPlace) {
                greatest = Math.max(greatest, known.bound(askedA, askedB));
            }
        }

        /** Goes through a statement; answers the place behind it, NOWHERE if the way ends. */
        private int pass(int place, Function[] functions, Function function) {
            Statement statement = function.statements[place];
            int next = place + 1;
            switch (statement.kind) {
                case GIVE:
                    known.give(statement.a, statement.b, statement.k);
                    break;
                case CALL:
                    passCall(place, statement, functions[statement.k]);
                    break;
                case IF:
                    leaveOtherSide(statement, function.targetOf(statement));
                    known.learn(statement.a, statement.b, statement.k);
                    break;
                case ELSE:
                    next = function.targetOf(statement);
                    break;
                case CLAIM:
                    noteShown(place, known.shows(statement.a, statement.b, statement.k));
                    known.learn(statement.a, statement.b, statement.k);
                    break;
                case RETURN:
                    endAt(place, function, statement.b, statement.k);
                    return NOWHERE;
                case ANY:
                    known.forget(statement.a);
                    break;
                default:
                    break;
            }
            return known.possible ? next : NOWHERE;
        }

        private void passCall(int place, Statement call, Function called) {
            noteShown(place, called.demands.shownBy(known, call.b, call.c));
            // The new number waits as RESULT, as its name may still be one of the parameters.
            called.promises.learnedBy(known, call.b, call.c);
            known.give(call.a, RESULT, 0);
            known.forget(RESULT);
        }

        private void leaveOtherSide(Statement asked, int place) {
            if (waitingSides >= IFS) {
                return;
            }
            Known other = waiting[waitingSides];
            other.copyFrom(known);
            other.learn(asked.b, asked.a, -asked.k - 1);
            if (other.possible) {
                waitingPlaces[waitingSides] = place;
                waitingSides++;
            }
        }

        private void endAt(int place, Function function, int b, int k) {
            known.give(RESULT, b, k);
            noteShown(place, function.promises.shownBy(known, FIRST_PARAMETER, SECOND_PARAMETER));
            ended++;
        }

        private void noteShown(int place, boolean shown) {
            if (!shown && (leastUnshown == NOWHERE || place < leastUnshown)) {
                leastUnshown = place;
            }
        }
    }
}
