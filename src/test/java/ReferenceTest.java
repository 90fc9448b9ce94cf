import java.util.ArrayList;
import java.util.Arrays;
import java.util.List;
import java.util.NoSuchElementException;
import java.util.TreeMap;

/**
 * Runs of calls, good and bad, drawn by a fixed sequence, against a model that follows the
 * document's words without any thrift: every number of a way stays, and every question is
 * answered by shortest distances over all of them.
 */
public final class ReferenceTest {
    private static final int RUNS = 3000;
    private static final int CALLS = 512;
    private static final int SHOWN_FAULTS = 20;
    private static final long FAR = Long.MAX_VALUE / 4;

    private static final int GIVE = 0;
    private static final int CALL = 1;
    private static final int IF = 2;
    private static final int ELSE = 3;
    private static final int END = 4;
    private static final int CLAIM = 5;
    private static final int RETURN = 6;
    private static final int ANY = 7;

    /** The sequence is the same in every run of the test. */
    private static final class Draw {
        private long state;

        Draw(long seed) {
            state = seed;
        }

        int below(int bound) {
            state = state * 6364136223846793005L + 1442695040888963407L;
            return (int) ((state >>> 33) % bound);
        }

        int within(int least, int greatest) {
            return least + below(greatest - least + 1);
        }

        boolean oneIn(int n) {
            return below(n) == 0;
        }
    }

    private static final class ModelFunction {
        final List<int[]> demands = new ArrayList<>();
        final List<int[]> promises = new ArrayList<>();
        final List<int[]> statements = new ArrayList<>();

        int kindAt(int place) {
            return statements.get(place)[0];
        }

        /** The places of IFs without END among the statements before a place, outermost first. */
        List<Integer> openAt(int before) {
            List<Integer> open = new ArrayList<>();
            for (int p = 0; p < before; p++) {
                if (kindAt(p) == IF) {
                    open.add(p);
                } else if (kindAt(p) == END) {
                    open.remove(open.size() - 1);
                }
            }
            return open;
        }

        /** The IF that the ELSE or END at a place belongs to. */
        int ownerOf(int place) {
            List<Integer> open = openAt(place);
            return open.get(open.size() - 1);
        }

        /** The place of the ELSE or END (kind) of an IF, or what is given if there is none. */
        int partner(int ifPlace, int kind, int otherwise) {
            for (int p = ifPlace + 1; p < statements.size(); p++) {
                if (kindAt(p) == kind && ownerOf(p) == ifPlace) {
                    return p;
                }
            }
            return otherwise;
        }

        boolean gives(int name) {
            for (int[] s : statements) {
                if ((s[0] == GIVE || s[0] == CALL || s[0] == ANY) && s[1] == name) {
                    return true;
                }
            }
            return false;
        }
    }

    /** A way as far as it has come: which number each name has, and all relations of numbers. */
    private static final class Way {
        final int[] numberOf;
        final List<long[]> known;
        int numbers;

        Way() {
            numberOf = new int[12];
            for (int name = 0; name < 12; name++) {
                numberOf[name] = name;
            }
            numbers = 12;
            known = new ArrayList<>();
        }

        Way(Way other) {
            numberOf = other.numberOf.clone();
            known = new ArrayList<>(other.known);
            numbers = other.numbers;
        }

        void learn(int a, int b, long k) {
            known.add(new long[] {a, b, k});
        }

        /** distance[a][b] is the most that a - b can be; null if there are no such numbers. */
        long[][] distances() {
            long[][] distance = new long[numbers][numbers];
            for (int i = 0; i < numbers; i++) {
                Arrays.fill(distance[i], FAR);
                distance[i][i] = 0;
            }
            for (long[] r : known) {
                distance[(int) r[0]][(int) r[1]] = Math.min(distance[(int) r[0]][(int) r[1]], r[2]);
            }
            for (int m = 0; m < numbers; m++) {
                for (int i = 0; i < numbers; i++) {
                    for (int j = 0; j < numbers && distance[i][m] < FAR; j++) {
                        if (distance[m][j] < FAR) {
                            distance[i][j] = Math.min(distance[i][j], distance[i][m] + distance[m][j]);
                        }
                    }
                }
            }
            for (int i = 0; i < numbers; i++) {
                if (distance[i][i] < 0) {
                    return null;
                }
            }
            return distance;
        }
    }

    private static final class Model {
        final ModelFunction[] functions = {
            new ModelFunction(), new ModelFunction(), new ModelFunction(), new ModelFunction()
        };
        boolean[] came;
        int leastUnshown;
        int ended;
        int askedPlace;
        int askedA;
        int askedB;
        long greatest;

        static boolean within(int n, int least, int greatest) {
            return n >= least && n <= greatest;
        }

        static boolean name(int n) {
            return within(n, 0, 2) || within(n, 4, 11);
        }

        static void argument(boolean good) {
            if (!good) {
                throw new IllegalArgumentException();
            }
        }

        int refine(int function, int kind, int a, int b, int k) {
            argument(within(function, 0, 3));
            argument(within(kind, 0, 1));
            argument(within(a, 0, 2 + kind));
            argument(within(b, 0, 2 + kind));
            argument(within(k, -1000, 1000));
            List<int[]> list = kind == 0 ? functions[function].demands : functions[function].promises;
            if (list.size() == 4) {
                throw new IllegalStateException();
            }
            list.add(new int[] {a, b, k});
            return list.size();
        }

        static List<Integer> used(int kind, int a, int b, int c) {
            switch (kind) {
                case GIVE:
                case RETURN:
                    return List.of(b);
                case CALL:
                    return List.of(b, c);
                case IF:
                case CLAIM:
                    return List.of(a, b);
                default:
                    return List.of();
            }
        }

        int statement(int function, int kind, int a, int b, int c, int k) {
            argument(within(function, 0, 3));
            argument(within(kind, 0, 7));
            if (kind == GIVE || kind == CALL || kind == ANY) {
                argument(within(a, 4, 11));
            }
            for (int n : used(kind, a, b, c)) {
                argument(name(n));
            }
            if (kind == GIVE || kind == IF || kind == CLAIM || kind == RETURN) {
                argument(within(k, -1000, 1000));
            }
            if (kind == CALL) {
                argument(within(k, 0, 3));
            }
            ModelFunction f = functions[function];
            int size = f.statements.size();
            for (int n : used(kind, a, b, c)) {
                if (n > 3 && !f.gives(n)) {
                    throw new UnsupportedOperationException();
                }
            }
            List<Integer> open = f.openAt(size);
            if (kind == ELSE || kind == END) {
                if (open.isEmpty()) {
                    throw new UnsupportedOperationException();
                }
                if (kind == ELSE && f.partner(open.get(open.size() - 1), ELSE, -1) != -1) {
                    throw new UnsupportedOperationException();
                }
            }
            int ifs = 0;
            for (int[] s : f.statements) {
                ifs += s[0] == IF ? 1 : 0;
            }
            if (size == 16 || kind == IF && ifs == 6) {
                throw new IllegalStateException();
            }
            f.statements.add(new int[] {kind, a, b, c, k});
            return size;
        }

        int clear(int function) {
            argument(within(function, 0, 3));
            int had = functions[function].statements.size();
            functions[function] = new ModelFunction();
            return had;
        }

        int check(int function) {
            argument(within(function, 0, 3));
            walk(function);
            return leastUnshown;
        }

        int ways(int function) {
            argument(within(function, 0, 3));
            walk(function);
            return ended;
        }

        int comes(int function, int place) {
            argument(within(function, 0, 3));
            argument(within(place, 0, functions[function].statements.size()));
            walk(function);
            return came[place] ? 1 : 0;
        }

        int most(int function, int place, int a, int b) {
            argument(within(function, 0, 3));
            argument(within(place, 0, functions[function].statements.size()));
            argument(name(a));
            argument(name(b));
            askedPlace = place;
            askedA = a;
            askedB = b;
            walk(function);
            if (!came[place]) {
                throw new NoSuchElementException();
            }
            if (greatest == FAR) {
                throw new ArithmeticException();
            }
            return (int) greatest;
        }

        int follows(int function, int from) {
            argument(within(function, 0, 3));
            argument(within(from, 0, 3));
            Way way = new Way();
            for (int[] r : functions[function].demands) {
                way.learn(r[0], r[1], r[2]);
            }
            for (int[] r : functions[from].promises) {
                way.learn(r[0], r[1], r[2]);
            }
            long[][] distance = way.distances();
            if (distance != null) {
                for (int[] r : functions[function].promises) {
                    if (distance[r[0]][r[1]] > r[2]) {
                        return 0;
                    }
                }
            }
            return 1;
        }

        int count(int function, int what) {
            argument(within(function, 0, 3));
            argument(within(what, 0, 3));
            ModelFunction f = functions[function];
            return new int[] {
                f.statements.size(), f.openAt(f.statements.size()).size(), f.demands.size(), f.promises.size()
            }[what];
        }

        void walk(int function) {
            came = new boolean[17];
            leastUnshown = -1;
            ended = 0;
            greatest = Long.MIN_VALUE;
            Way way = new Way();
            for (int[] r : functions[function].demands) {
                way.learn(r[0], r[1], r[2]);
            }
            step(functions[function], 0, way);
        }

        void show(int place, boolean holds) {
            if (!holds && (leastUnshown == -1 || place < leastUnshown)) {
                leastUnshown = place;
            }
        }

        void finish(ModelFunction f, int place, Way way, int b, int k) {
            Way end = new Way(way);
            int result = end.numbers++;
            end.learn(result, end.numberOf[b], k);
            end.learn(end.numberOf[b], result, -k);
            end.numberOf[3] = result;
            long[][] distance = end.distances();
            for (int[] r : f.promises) {
                show(place, distance[end.numberOf[r[0]]][end.numberOf[r[1]]] <= r[2]);
            }
            ended++;
        }

        void call(int place, int[] s, Way way, long[][] distance) {
            ModelFunction called = functions[s[4]];
            int[] as = {0, way.numberOf[s[2]], way.numberOf[s[3]], way.numbers++};
            for (int[] r : called.demands) {
                show(place, distance[as[r[0]]][as[r[1]]] <= r[2]);
            }
            for (int[] r : called.promises) {
                way.learn(as[r[0]], as[r[1]], r[2]);
            }
            way.numberOf[s[1]] = as[3];
        }

        void step(ModelFunction f, int place, Way way) {
            long[][] distance = way.distances();
            if (distance == null) {
                return;
            }
            came[place] = true;
            if (place == askedPlace) {
                greatest = Math.max(greatest, distance[way.numberOf[askedA]][way.numberOf[askedB]]);
            }
            int behindLast = f.statements.size();
            if (place == behindLast) {
                finish(f, place, way, 0, 0);
                return;
            }
            int[] s = f.statements.get(place);
            int a = s[1];
            int b = s[2];
            int k = s[4];
            switch (s[0]) {
                case GIVE: {
                    int made = way.numbers++;
                    way.learn(made, way.numberOf[b], k);
                    way.learn(way.numberOf[b], made, -k);
                    way.numberOf[a] = made;
                    step(f, place + 1, way);
                    break;
                }
                case CALL:
                    call(place, s, way, distance);
                    step(f, place + 1, way);
                    break;
                case IF: {
                    Way other = new Way(way);
                    way.learn(way.numberOf[a], way.numberOf[b], k);
                    step(f, place + 1, way);
                    other.learn(other.numberOf[b], other.numberOf[a], -k - 1);
                    int itsElse = f.partner(place, ELSE, -1);
                    step(f, itsElse != -1 ? itsElse + 1 : f.partner(place, END, behindLast), other);
                    break;
                }
                case ELSE:
                    step(f, f.partner(f.ownerOf(place), END, behindLast), way);
                    break;
                case END:
                    step(f, place + 1, way);
                    break;
                case CLAIM:
                    show(place, distance[way.numberOf[a]][way.numberOf[b]] <= k);
                    way.learn(way.numberOf[a], way.numberOf[b], k);
                    step(f, place + 1, way);
                    break;
                case RETURN:
                    finish(f, place, way, b, k);
                    break;
                default:
                    way.numberOf[a] = way.numbers++;
                    step(f, place + 1, way);
                    break;
            }
        }
    }

    /** What a run likes to do: without leanings all runs would look alike. */
    private static final class Leaning {
        final int functions;
        final int span;
        final int clearsOneIn;
        final int names;
        final int refines;
        final boolean closesIfs;
        final int[] kinds = new int[12];

        Leaning(Draw draw) {
            functions = draw.within(1, 4);
            span = draw.oneIn(8) ? 1000 : draw.within(1, 12);
            clearsOneIn = draw.within(8, 60);
            names = draw.within(1, 8);
            refines = draw.oneIn(2) ? 3 : 12;
            closesIfs = draw.oneIn(2);
            for (int i = 0; i < kinds.length; i++) {
                kinds[i] = i < 6 ? new int[] {GIVE, CALL, IF, CLAIM, ELSE, END}[i] : draw.below(9) % 8;
            }
        }
    }

    private static int name(Draw draw, Leaning leaning) {
        int n = draw.below(3 + leaning.names);
        return n < 3 ? n : n + 1;
    }

    /** Mostly a name that may be used already. */
    private static int usedName(Draw draw, Leaning leaning, ModelFunction f) {
        int n = name(draw, leaning);
        for (int i = 0; i < 4 && n > 3 && !f.gives(n); i++) {
            n = name(draw, leaning);
        }
        return n;
    }

    private static int kind(Draw draw, Leaning leaning, ModelFunction f) {
        int kind = leaning.kinds[draw.below(leaning.kinds.length)];
        boolean noneOpen = f.openAt(f.statements.size()).isEmpty();
        if ((kind == ELSE || kind == END) && noneOpen && !draw.oneIn(6)) {
            return IF;
        }
        return leaning.closesIfs && !noneOpen && draw.oneIn(2) ? END : kind;
    }

    private static int k(Draw draw, Leaning leaning) {
        return draw.within(-leaning.span, leaning.span);
    }

    /** A call with its arguments; one argument is spoilt now and then. */
    private static int[] drawCall(Draw draw, Leaning leaning, Model model) {
        int f = draw.below(leaning.functions);
        int size = model.functions[f].statements.size();
        int[] call;
        int what = draw.below(100);
        if (what < leaning.refines) {
            int kind = draw.below(2);
            call = new int[] {0, f, kind, draw.below(3 + kind), draw.below(3 + kind), k(draw, leaning)};
        } else if (what < 55) {
            ModelFunction drawn = model.functions[f];
            int kind = kind(draw, leaning, drawn);
            boolean gives = kind == GIVE || kind == CALL || kind == ANY;
            int a = gives ? draw.within(4, 3 + leaning.names) : usedName(draw, leaning, drawn);
            int k = kind == CALL ? draw.below(leaning.functions) : k(draw, leaning);
            call = new int[] {
                1, f, kind, a, usedName(draw, leaning, drawn), usedName(draw, leaning, drawn), k
            };
        } else if (what < 56) {
            call = draw.oneIn(2) ? new int[] {8, f, draw.below(4)} : new int[] {2, f};
        } else if (what < 66) {
            call = new int[] {3, f};
        } else if (what < 74) {
            call = new int[] {4, f};
        } else if (what < 82) {
            call = new int[] {5, f, draw.within(0, size)};
        } else if (what < 94) {
            call = new int[] {6, f, draw.within(0, size), name(draw, leaning), name(draw, leaning)};
        } else if (what < 98) {
            call = new int[] {7, f, draw.below(leaning.functions)};
        } else {
            call = new int[] {8, f, draw.below(4)};
        }
        if (size == 16 && draw.oneIn(leaning.clearsOneIn)) {
            call = new int[] {2, f};
        }
        if (draw.oneIn(25)) {
            int[] bad = {-1, 2, 3, 4, 8, 12, 17, -1001, 1001, size + 1, Integer.MIN_VALUE, Integer.MAX_VALUE};
            call[draw.within(1, call.length - 1)] = bad[draw.below(bad.length)];
        }
        return call;
    }

    private static int of(LiquidChecker x, int[] c) {
        switch (c[0]) {
            case 0:
                return x.refine(c[1], c[2], c[3], c[4], c[5]);
            case 1:
                return x.statement(c[1], c[2], c[3], c[4], c[5], c[6]);
            case 2:
                return x.clear(c[1]);
            case 3:
                return x.check(c[1]);
            case 4:
                return x.ways(c[1]);
            case 5:
                return x.comes(c[1], c[2]);
            case 6:
                return x.most(c[1], c[2], c[3], c[4]);
            case 7:
                return x.follows(c[1], c[2]);
            default:
                return x.count(c[1], c[2]);
        }
    }

    private static int of(Model x, int[] c) {
        switch (c[0]) {
            case 0:
                return x.refine(c[1], c[2], c[3], c[4], c[5]);
            case 1:
                return x.statement(c[1], c[2], c[3], c[4], c[5], c[6]);
            case 2:
                return x.clear(c[1]);
            case 3:
                return x.check(c[1]);
            case 4:
                return x.ways(c[1]);
            case 5:
                return x.comes(c[1], c[2]);
            case 6:
                return x.most(c[1], c[2], c[3], c[4]);
            case 7:
                return x.follows(c[1], c[2]);
            default:
                return x.count(c[1], c[2]);
        }
    }

    private static final String[] CALL_NAMES = {
        "refine", "statement", "clear", "check", "ways", "comes", "most", "follows", "count"
    };

    private static String answer(LiquidChecker x, Model model, int[] call) {
        try {
            return Integer.toString(x != null ? of(x, call) : of(model, call));
        } catch (RuntimeException e) {
            return "throws." + e.getClass().getSimpleName();
        }
    }

    public static void main(String[] args) {
        boolean tells = args.length > 0;
        TreeMap<String, Integer> seen = new TreeMap<>();
        int wrong = 0;
        for (int run = 1; run <= RUNS && wrong < SHOWN_FAULTS; run++) {
            Draw draw = new Draw(run * 7919L);
            Leaning leaning = new Leaning(draw);
            LiquidChecker x = new LiquidChecker();
            Model model = new Model();
            int calls = draw.oneIn(20) ? CALLS : draw.within(20, 120);
            for (int i = 0; i < calls; i++) {
                int[] call = drawCall(draw, leaning, model);
                String want = answer(null, model, call);
                String got = answer(x, model, call);
                if (tells) {
                    seen.merge(CALL_NAMES[call[0]] + " " + want, 1, Integer::sum);
                }
                if (!got.equals(want)) {
                    wrong++;
                    System.out.println("run " + run + ", call " + i + ": " + CALL_NAMES[call[0]]
                            + Arrays.toString(Arrays.copyOfRange(call, 1, call.length))
                            + " answered " + got + ", due is " + want);
                    break;
                }
            }
        }
        if (tells) {
            System.out.println(seen);
        }
        System.out.println(wrong == 0 ? "all runs are as the model's" : wrong + " runs are not as the model's");
        if (wrong != 0) {
            System.exit(1);
        }
    }
}
