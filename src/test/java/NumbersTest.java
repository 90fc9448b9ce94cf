import java.util.Arrays;
import java.util.TreeSet;

/**
 * Small functions, drawn by a fixed sequence, are run with numbers: every choice out of a box is
 * tried, and what then happens is all that the checker may tell. No relation is ever reasoned from.
 */
public final class NumbersTest extends Sentences {
    private static final int FUNCTIONS = 2500;
    /** The sum of all that numbers can be held apart by, so that the box stays small. */
    private static final int GREATEST_SUM = 4;
    /** Functions that take more are left out: they have too many numbers to choose. */
    private static final int GREATEST_STEPS = 200_000;
    private static final int[] NAMES = {0, 1, 2, 4, 5};

    private static long state = 20261116;

    private static int below(int bound) {
        state = state * 6364136223846793005L + 1442695040888963407L;
        return (int) ((state >>> 33) % bound);
    }

    private static int drawK() {
        return new int[] {-1, -1, 0, 0, 0, 1}[below(6)];
    }

    /** What one of the functions has: relations (a, b, k) and statements (kind, a, b, c, k). */
    private static final class Written {
        final int[][] demands;
        final int[][] promises;
        final int[][] statements;

        Written(int demands, int promises, int[][] statements) {
            this.demands = drawRelations(demands, 3);
            this.promises = drawRelations(promises, 4);
            this.statements = statements;
        }

        private static int[][] drawRelations(int size, int names) {
            int[][] relations = new int[size][];
            for (int i = 0; i < size; i++) {
                relations[i] = new int[] {below(names), below(names), drawK()};
            }
            return relations;
        }

        void writeTo(LiquidChecker x, int function) {
            for (int[] r : demands) {
                x.refine(function, DEMAND, r[0], r[1], r[2]);
            }
            for (int[] r : promises) {
                x.refine(function, PROMISE, r[0], r[1], r[2]);
            }
            for (int[] s : statements) {
                x.statement(function, s[0], s[1], s[2], s[3], s[4]);
            }
        }
    }

    private static int drawName(boolean[] given) {
        int name = NAMES[below(NAMES.length)];
        return name < 4 || given[name] ? name : below(3);
    }

    private static int[][] drawStatements() {
        int[][] statements = new int[1 + below(7)][];
        boolean[] given = new boolean[6];
        // For each IF that is open, whether it still may have an ELSE.
        boolean[] mayTurn = new boolean[8];
        int open = 0;
        for (int i = 0; i < statements.length; i++) {
            int kind = new int[] {GIVE, CALL, IF, IF, ELSE, END, CLAIM, RETURN, ANY}[below(9)];
            if (open == 0 && (kind == ELSE || kind == END) || kind == ELSE && !mayTurn[open]) {
                kind = IF;
            }
            boolean gives = kind == GIVE || kind == CALL || kind == ANY;
            int a = gives ? 4 + below(2) : drawName(given);
            statements[i] = new int[] {kind, a, drawName(given), drawName(given), kind == CALL ? 1 : drawK()};
            if (gives) {
                given[a] = true;
            }
            open += kind == IF ? 1 : 0;
            mayTurn[open] = kind == IF || kind != ELSE && mayTurn[open];
            open -= kind == END ? 1 : 0;
        }
        return statements;
    }

    /** Runs function 0, which may call function 1, with all choices of numbers up to a limit. */
    private static final class Runs {
        final int[][] statements;
        final Written main;
        final Written called;
        final int limit;
        final boolean[] comes;
        final int[][][] most;
        final TreeSet<String> ways = new TreeSet<>();
        int unshown = -1;
        int steps;

        Runs(Written main, Written called, int limit) {
            this.main = main;
            this.called = called;
            this.limit = limit;
            statements = main.statements;
            comes = new boolean[statements.length + 1];
            most = new int[comes.length][6][6];
            for (int p1 = -limit; p1 <= limit; p1++) {
                for (int p2 = -limit; p2 <= limit; p2++) {
                    if (hold(main.demands, p1, p2, 0)) {
                        runFrom(0, new Integer[] {0, p1, p2, null, null, null}, "");
                    }
                }
            }
        }

        static boolean hold(int[][] relations, int p1, int p2, int result) {
            int[] v = {0, p1, p2, result};
            for (int[] r : relations) {
                if (v[r[0]] - v[r[1]] > r[2]) {
                    return false;
                }
            }
            return true;
        }

        void comeTo(int place, Integer[] v) {
            for (int a : NAMES) {
                for (int b : NAMES) {
                    // A number that is not chosen yet may still be chosen as far out as one likes.
                    int apart = a == b ? 0 : v[a] == null || v[b] == null ? limit : v[a] - v[b];
                    most[place][a][b] = comes[place] ? Math.max(most[place][a][b], apart) : apart;
                }
            }
            comes[place] = true;
        }

        boolean areComplete() {
            return steps <= GREATEST_STEPS;
        }

        void runFrom(int place, Integer[] v, String way) {
            steps++;
            if (!areComplete()) {
                return;
            }
            int[] s = place < statements.length ? statements[place] : new int[] {RETURN, 0, 0, 0, 0};
            int unchosen = unchosen(s, v);
            if (unchosen != 0) {
                comeTo(place, v);
                for (int number = -limit; number <= limit; number++) {
                    runFrom(place, with(v, unchosen, number), way);
                }
                return;
            }
            comeTo(place, v);
            boolean holds = s[0] != IF && s[0] != CLAIM || v[s[1]] - v[s[2]] <= s[4];
            switch (s[0]) {
                case GIVE -> runFrom(place + 1, with(v, s[1], v[s[2]] + s[4]), way);
                case CALL -> runCall(place, s, v, way);
                case IF -> runFrom(holds ? place + 1 : otherSide(place), v, way + (holds ? "1" : "0"));
                case ELSE -> runFrom(endFrom(place), v, way);
                case CLAIM -> runClaim(place, holds, v, way);
                case RETURN -> {
                    note(place, hold(main.promises, v[1], v[2], v[s[2]] + s[4]));
                    ways.add(way);
                }
                case ANY -> runFrom(place + 1, with(v, s[1], null), way);
                default -> runFrom(place + 1, v, way);
            }
        }

        /** A name that a statement uses and whose number is still open, 0 if there is none. */
        static int unchosen(int[] s, Integer[] v) {
            if ((s[0] == IF || s[0] == CLAIM) && v[s[1]] == null) {
                return s[1];
            }
            if ((s[0] <= IF || s[0] == CLAIM || s[0] == RETURN) && v[s[2]] == null) {
                return s[2];
            }
            return s[0] == CALL && v[s[3]] == null ? s[3] : 0;
        }

        static Integer[] with(Integer[] v, int name, Integer number) {
            Integer[] changed = v.clone();
            changed[name] = number;
            return changed;
        }

        void runCall(int place, int[] s, Integer[] v, String way) {
            note(place, hold(called.demands, v[s[2]], v[s[3]], 0));
            for (int result = -limit; result <= limit; result++) {
                if (hold(called.promises, v[s[2]], v[s[3]], result)) {
                    runFrom(place + 1, with(v, s[1], result), way);
                }
            }
        }

        void runClaim(int place, boolean holds, Integer[] v, String way) {
            note(place, holds);
            if (holds) {
                runFrom(place + 1, v, way);
            }
        }

        void note(int place, boolean shown) {
            unshown = shown || unshown >= 0 && unshown <= place ? unshown : place;
        }

        int otherSide(int ifPlace) {
            int inside = 0;
            for (int place = ifPlace + 1; place < statements.length; place++) {
                int kind = statements[place][0];
                if (inside == 0 && (kind == ELSE || kind == END)) {
                    return kind == ELSE ? place + 1 : place;
                }
                inside += kind == IF ? 1 : kind == END ? -1 : 0;
            }
            return statements.length;
        }

        int endFrom(int elsePlace) {
            int inside = 0;
            for (int place = elsePlace + 1; place < statements.length; place++) {
                int kind = statements[place][0];
                if (inside == 0 && kind == END) {
                    return place;
                }
                inside += kind == IF ? 1 : kind == END ? -1 : 0;
            }
            return statements.length;
        }
    }

    private static int sum(int[][] relations) {
        int sum = 0;
        for (int[] r : relations) {
            sum += Math.abs(r[2]);
        }
        return sum;
    }

    /** No finite distance is greater than this: each thing that is known is needed once at most. */
    private static int sum(Written main, Written called) {
        int sum = sum(main.demands);
        for (int[] s : main.statements) {
            sum += switch (s[0]) {
                case GIVE, CLAIM -> Math.abs(s[4]);
                case IF -> Math.max(Math.abs(s[4]), Math.abs(s[4] + 1));
                case CALL -> sum(called.promises);
                default -> 0;
            };
        }
        return sum;
    }

    private static void compare(Runs runs, int greatestApart) {
        LiquidChecker x = new LiquidChecker();
        runs.main.writeTo(x, 0);
        runs.called.writeTo(x, 1);
        due(runs.unshown, () -> x.check(0));
        due(runs.ways.size(), () -> x.ways(0));
        for (int place = 0; place < runs.comes.length; place++) {
            int at = place;
            due(runs.comes[place] ? 1 : 0, () -> x.comes(0, at));
            for (int a : NAMES) {
                for (int b : NAMES) {
                    int most = runs.most[place][a][b];
                    Object bounded = most > greatestApart ? ARITHMETIC : (Object) most;
                    due(runs.comes[place] ? bounded : NO_ELEMENT, () -> x.most(0, at, a, b));
                }
            }
        }
    }

    private static int followsBy(Written main, Written from, int limit) {
        for (int p1 = -limit; p1 <= limit; p1++) {
            for (int p2 = -limit; p2 <= limit; p2++) {
                for (int result = -limit; result <= limit; result++) {
                    if (Runs.hold(main.demands, p1, p2, result) && Runs.hold(from.promises, p1, p2, result)
                            && !Runs.hold(main.promises, p1, p2, result)) {
                        return 0;
                    }
                }
            }
        }
        return 1;
    }

    private static void compareFollows(Written main, Written from) {
        LiquidChecker x = new LiquidChecker();
        main.writeTo(x, 0);
        from.writeTo(x, 1);
        int limit = sum(main.demands) + sum(from.promises) + 2;
        due(followsBy(main, from, limit), () -> x.follows(0, 1));
    }

    private static String tell(Written main, Written called) {
        return "demands " + Arrays.deepToString(main.demands) + ", promises " + Arrays.deepToString(main.promises)
                + ", statements " + Arrays.deepToString(main.statements)
                + "; called: demands " + Arrays.deepToString(called.demands)
                + ", promises " + Arrays.deepToString(called.promises);
    }

    public static void main(String[] args) {
        int compared = 0;
        for (int drawn = 0; drawn < 100 * FUNCTIONS && compared < FUNCTIONS; drawn++) {
            Written main = new Written(below(3), below(3), drawStatements());
            Written called = new Written(below(2), below(3), new int[0][]);
            int sum = sum(main, called);
            if (sum > GREATEST_SUM) {
                continue;
            }
            // Numbers further out are needed nowhere: not to lie further apart than the sum (once more
            // the sum, and 1), nor to break what is not shown (a promise's k, a RETURN's, and 1).
            Runs runs = new Runs(main, called, 2 * sum + 3);
            if (runs.areComplete()) {
                compared++;
                sentence(tell(main, called), unused -> compare(runs, sum));
            }
        }
        for (int drawn = 0; drawn < FUNCTIONS; drawn++) {
            Written main = new Written(below(4), 1 + below(2), new int[0][]);
            Written from = new Written(below(2), below(5), new int[0][]);
            sentence(tell(main, from), unused -> compareFollows(main, from));
        }
        endOfTests();
    }
}
