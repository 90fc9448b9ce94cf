/** Each promise of the document in ordinary use, with edges and wrong inputs. */
public final class PromisesTest extends Sentences {
    /** A statement that uses a, b and k, at the place that is due. */
    private static void put(LiquidChecker x, int place, int function, int kind, int... abk) {
        due(place, () -> x.statement(function, kind, abk.length > 0 ? abk[0] : 0, abk.length > 1 ? abk[1] : 0, 0,
                abk.length > 2 ? abk[2] : 0));
    }

    private static void newObject() {
        LiquidChecker x = new LiquidChecker();
        for (int f = 0; f < 4; f++) {
            int function = f;
            for (int w = 0; w < 4; w++) {
                int what = w;
                due(0, () -> x.count(function, what));
            }
            due(-1, () -> x.check(function));
            due(1, () -> x.ways(function));
            due(1, () -> x.comes(function, 0));
            due(ARGUMENT, () -> x.comes(function, 1));
            due(0, () -> x.most(function, 0, 7, 7));
            due(ARITHMETIC, () -> x.most(function, 0, 1, 0));
            due(1, () -> x.follows(function, 3 - function));
            due(0, () -> x.clear(function));
        }
        LiquidChecker y = new LiquidChecker();
        put(x, 0, 0, ANY, 4);
        due(0, () -> y.count(0, 0));
    }

    private static void refine() {
        LiquidChecker x = new LiquidChecker();
        for (int bad : new int[] {-1, 4, Integer.MIN_VALUE, Integer.MAX_VALUE}) {
            due(ARGUMENT, () -> x.refine(bad, 0, 0, 1, 0));
            due(ARGUMENT, () -> x.refine(0, 1, bad, 1, 0));
            due(ARGUMENT, () -> x.refine(0, 1, 1, bad, 0));
        }
        for (int bad : new int[] {-1, 3, Integer.MIN_VALUE, Integer.MAX_VALUE}) {
            due(ARGUMENT, () -> x.refine(0, 0, bad, 1, 0));
            due(ARGUMENT, () -> x.refine(0, 0, 1, bad, 0));
        }
        for (int bad : new int[] {-1, 2, Integer.MIN_VALUE, Integer.MAX_VALUE}) {
            due(ARGUMENT, () -> x.refine(0, bad, 0, 1, 0));
        }
        for (int bad : new int[] {-1001, 1001, Integer.MIN_VALUE, Integer.MAX_VALUE}) {
            due(ARGUMENT, () -> x.refine(0, 0, 0, 1, bad));
            due(ARGUMENT, () -> x.refine(0, 1, 0, 1, bad));
        }
        due(0, () -> x.count(0, 2));
        due(0, () -> x.count(0, 3));
        due(1, () -> x.refine(0, 0, 1, 0, 1000));
        due(2, () -> x.refine(0, 0, 0, 1, -1000));
        due(3, () -> x.refine(0, 0, 2, 2, 0));
        due(4, () -> x.refine(0, 0, 2, 1, 7));
        due(STATE, () -> x.refine(0, 0, 2, 1, 7));
        due(ARGUMENT, () -> x.refine(0, 0, 3, 1, 7));
        due(1, () -> x.refine(0, 1, 3, 3, 0));
        due(2, () -> x.refine(0, 1, 3, 0, 0));
        due(3, () -> x.refine(0, 1, 0, 3, 0));
        due(4, () -> x.refine(0, 1, 1, 2, 0));
        due(STATE, () -> x.refine(0, 1, 1, 2, 0));
        due(ARGUMENT, () -> x.refine(0, 1, 1, 2, 1001));
        due(4, () -> x.count(0, 2));
        due(4, () -> x.count(0, 3));
        due(0, () -> x.count(1, 2));
        due(1000, () -> x.most(0, 0, 1, 0));
        due(-1000, () -> x.most(0, 0, 0, 1));
        due(1007, () -> x.most(0, 0, 2, 0));
        due(1, () -> x.refine(3, 0, 1, 0, 0));
    }

    private static void statementArguments() {
        LiquidChecker x = new LiquidChecker();
        for (int bad : new int[] {-1, 4, Integer.MIN_VALUE, Integer.MAX_VALUE}) {
            due(ARGUMENT, () -> x.statement(bad, ANY, 4, 0, 0, 0));
            due(ARGUMENT, () -> x.statement(0, CALL, 4, 1, 2, bad));
        }
        for (int bad : new int[] {-1, 8, Integer.MIN_VALUE, Integer.MAX_VALUE}) {
            due(ARGUMENT, () -> x.statement(0, bad, 4, 1, 1, 0));
        }
        for (int bad : new int[] {-1, 0, 2, 3, 12, Integer.MIN_VALUE, Integer.MAX_VALUE}) {
            due(ARGUMENT, () -> x.statement(0, GIVE, bad, 1, 1, 0));
            due(ARGUMENT, () -> x.statement(0, CALL, bad, 1, 1, 0));
            due(ARGUMENT, () -> x.statement(0, ANY, bad, 1, 1, 0));
        }
        for (int bad : new int[] {-1, 3, 12, Integer.MIN_VALUE, Integer.MAX_VALUE}) {
            due(ARGUMENT, () -> x.statement(0, GIVE, 4, bad, 1, 0));
            due(ARGUMENT, () -> x.statement(0, CALL, 4, bad, 1, 0));
            due(ARGUMENT, () -> x.statement(0, CALL, 4, 1, bad, 0));
            due(ARGUMENT, () -> x.statement(0, IF, bad, 1, 1, 0));
            due(ARGUMENT, () -> x.statement(0, IF, 1, bad, 1, 0));
            due(ARGUMENT, () -> x.statement(0, CLAIM, bad, 1, 1, 0));
            due(ARGUMENT, () -> x.statement(0, CLAIM, 1, bad, 1, 0));
            due(ARGUMENT, () -> x.statement(0, RETURN, 1, bad, 1, 0));
        }
        for (int bad : new int[] {-1001, 1001, Integer.MIN_VALUE, Integer.MAX_VALUE}) {
            due(ARGUMENT, () -> x.statement(0, GIVE, 4, 1, 1, bad));
            due(ARGUMENT, () -> x.statement(0, IF, 1, 1, 1, bad));
            due(ARGUMENT, () -> x.statement(0, CLAIM, 1, 1, 1, bad));
            due(ARGUMENT, () -> x.statement(0, RETURN, 1, 1, 1, bad));
        }
        due(0, () -> x.count(0, 0));
    }

    private static void statementOrderOfTesting() {
        LiquidChecker x = new LiquidChecker();
        for (int used = 4; used < 12; used++) {
            int name = used;
            due(UNSUPPORTED, () -> x.statement(0, GIVE, name, name, 1, 0));
            due(UNSUPPORTED, () -> x.statement(0, CALL, 4, name, 1, 0));
            due(UNSUPPORTED, () -> x.statement(0, CALL, 4, 1, name, 0));
            due(UNSUPPORTED, () -> x.statement(0, IF, name, 1, 1, 0));
            due(UNSUPPORTED, () -> x.statement(0, IF, 1, name, 1, 0));
            due(UNSUPPORTED, () -> x.statement(0, CLAIM, name, 1, 1, 0));
            due(UNSUPPORTED, () -> x.statement(0, CLAIM, 1, name, 1, 0));
            due(UNSUPPORTED, () -> x.statement(0, RETURN, 1, name, 1, 0));
        }
        due(ARGUMENT, () -> x.statement(0, CALL, 4, 5, 1, 4));
        due(ARGUMENT, () -> x.statement(0, GIVE, 4, 5, 1, 1001));
        due(UNSUPPORTED, () -> x.statement(0, ELSE, 0, 0, 0, 0));
        due(UNSUPPORTED, () -> x.statement(0, END, 0, 0, 0, 0));
        put(x, 0, 0, GIVE, 5, 0, 1000);
        put(x, 1, 0, GIVE, 5, 5, -1000);
        due(2, () -> x.statement(0, CALL, 11, 5, 5, 3));
        due(3, () -> x.statement(0, ANY, 4, -9, -9, -9999));
        due(4, () -> x.statement(0, IF, 4, 11, -9, 1000));
        due(5, () -> x.statement(0, ELSE, -9, 99, -9, -9999));
        due(UNSUPPORTED, () -> x.statement(0, ELSE, 0, 0, 0, 0));
        due(6, () -> x.statement(0, END, -9, 99, -9, -9999));
        due(UNSUPPORTED, () -> x.statement(0, END, 0, 0, 0, 0));
        due(7, () -> x.statement(0, RETURN, -9, 11, -9, -1000));
        due(8, () -> x.statement(0, CLAIM, 4, 5, -9, 1000));
        due(UNSUPPORTED, () -> x.statement(1, RETURN, 0, 4, 0, 0));
        for (int place = 9; place < 16; place++) {
            put(x, place, 0, ANY, 6);
        }
        due(STATE, () -> x.statement(0, ANY, 6, 0, 0, 0));
        due(UNSUPPORTED, () -> x.statement(0, END, 0, 0, 0, 0));
        due(UNSUPPORTED, () -> x.statement(0, RETURN, 0, 10, 0, 0));
        due(ARGUMENT, () -> x.statement(0, RETURN, 0, 3, 0, 0));
        due(16, () -> x.count(0, 0));
    }

    private static void statementIfs() {
        LiquidChecker x = new LiquidChecker();
        for (int i = 0; i < 6; i++) {
            put(x, 2 * i, 0, IF, 1, 2, i);
            put(x, 2 * i + 1, 0, END);
        }
        due(STATE, () -> x.statement(0, IF, 1, 2, 0, 0));
        due(UNSUPPORTED, () -> x.statement(0, IF, 4, 2, 0, 0));
        put(x, 12, 0, CLAIM, 1, 1, 0);
        due(7, () -> x.ways(0));
        // An ELSE belongs to the innermost IF that is open, and each IF has one at most.
        put(x, 0, 1, IF, 1, 2, 0);
        put(x, 1, 1, IF, 2, 0, 0);
        put(x, 2, 1, ELSE);
        due(UNSUPPORTED, () -> x.statement(1, ELSE, 0, 0, 0, 0));
        put(x, 3, 1, END);
        put(x, 4, 1, ELSE);
        due(UNSUPPORTED, () -> x.statement(1, ELSE, 0, 0, 0, 0));
        put(x, 5, 1, IF, 1, 0, 0);
        put(x, 6, 1, ELSE);
        due(2, () -> x.count(1, 1));
        due(4, () -> x.ways(1));
    }

    private static void clear() {
        LiquidChecker x = new LiquidChecker();
        for (int bad : new int[] {-1, 4, Integer.MIN_VALUE, Integer.MAX_VALUE}) {
            due(ARGUMENT, () -> x.clear(bad));
        }
        for (int f = 0; f < 2; f++) {
            int function = f;
            due(1, () -> x.refine(function, 0, 1, 0, 0));
            due(1, () -> x.refine(function, 1, 3, 0, -1));
            for (int i = 0; i < 6; i++) {
                put(x, i, function, IF, 1, 0, 0);
            }
            put(x, 6, function, ANY, 9);
        }
        due(7, () -> x.clear(0));
        due(0, () -> x.clear(0));
        for (int w = 0; w < 4; w++) {
            int what = w;
            due(0, () -> x.count(0, what));
        }
        due(7, () -> x.count(1, 0));
        due(6, () -> x.count(1, 1));
        due(1, () -> x.count(1, 2));
        due(1, () -> x.count(1, 3));
        due(-1, () -> x.check(0));
        due(UNSUPPORTED, () -> x.statement(0, RETURN, 0, 9, 0, 0));
        due(UNSUPPORTED, () -> x.statement(0, END, 0, 0, 0, 0));
        for (int i = 0; i < 6; i++) {
            put(x, i, 0, IF, 1, 0, -i);
        }
        due(STATE, () -> x.statement(0, IF, 1, 0, 0, 0));
        due(7, () -> x.ways(0));
    }

    private static void checkReturnsAndClaims() {
        LiquidChecker x = new LiquidChecker();
        for (int bad : new int[] {-1, 4, Integer.MIN_VALUE, Integer.MAX_VALUE}) {
            due(ARGUMENT, () -> x.check(bad));
        }
        // The RETURN 0 behind the last statement is held to the promises, at its own place.
        due(1, () -> x.refine(0, 1, 3, 0, 0));
        due(-1, () -> x.check(0));
        due(2, () -> x.refine(0, 1, 0, 3, -1));
        due(0, () -> x.check(0));
        put(x, 0, 0, ANY, 4);
        due(1, () -> x.check(0));
        // A CLAIM is known behind it, shown or not.
        put(x, 1, 0, CLAIM, 4, 0, 5);
        put(x, 2, 0, CLAIM, 4, 0, 5);
        due(1, () -> x.check(0));
        due(5, () -> x.most(0, 2, 4, 0));
        // b + k is returned: the promise 1 - 3 <= -2 needs k of 2 at least.
        due(1, () -> x.refine(1, 1, 1, 3, -2));
        put(x, 0, 1, IF, 1, 2, 0);
        put(x, 1, 1, RETURN, 0, 1, 2);
        put(x, 2, 1, END);
        put(x, 3, 1, RETURN, 0, 1, 1);
        due(3, () -> x.check(1));
        due(2, () -> x.refine(1, 1, 3, 1, 1));
        due(1, () -> x.check(1));
        // What cannot be reached need not be shown; a contradiction in the demands leaves nothing.
        due(1, () -> x.refine(1, 0, 1, 1, -1));
        due(-1, () -> x.check(1));
        due(1, () -> x.refine(2, 1, 3, 3, -1));
        due(0, () -> x.check(2));
        put(x, 0, 2, IF, 1, 1, -1);
        put(x, 1, 2, CLAIM, 0, 0, -1);
        put(x, 2, 2, END);
        due(3, () -> x.check(2));
    }

    private static void checkCalls() {
        LiquidChecker x = new LiquidChecker();
        due(1, () -> x.refine(0, 0, 1, 2, -1));
        due(1, () -> x.refine(0, 1, 3, 2, 0));
        due(2, () -> x.refine(0, 1, 1, 3, 0));
        put(x, 0, 1, ANY, 4);
        due(1, () -> x.statement(1, CALL, 4, 4, 1, 0));
        due(1, () -> x.check(1));
        // The promises say 4's old number <= new <= 1: the old one is gone, the bound stays.
        due(0, () -> x.most(1, 2, 4, 1));
        due(ARITHMETIC, () -> x.most(1, 2, 1, 4));
        put(x, 2, 1, CLAIM, 4, 1, 0);
        due(1, () -> x.check(1));
        // Parameters that a promise binds to each other stay bound behind the CALL.
        due(0, () -> x.statement(2, CALL, 5, 1, 2, 0));
        due(0, () -> x.most(2, 1, 1, 2));
        due(ARITHMETIC, () -> x.most(2, 0, 1, 2));
        due(0, () -> x.check(2));
        due(1, () -> x.refine(2, 0, 1, 2, -1));
        due(-1, () -> x.check(2));
        // The same number twice cannot meet the demand that one is less.
        put(x, 0, 3, GIVE, 4, 1, 0);
        due(1, () -> x.statement(3, CALL, 5, 4, 1, 0));
        due(1, () -> x.check(3));
        due(1, () -> x.ways(3));
        due(0, () -> x.most(3, 2, 5, 1));
        due(0, () -> x.most(3, 2, 1, 5));
        // A function may call itself, and is taken at its word.
        due(3, () -> x.refine(0, 1, 3, 1, -1));
        due(0, () -> x.statement(0, CALL, 4, 1, 2, 0));
        due(0, () -> x.ways(0));
        due(-1, () -> x.check(0));
    }

    private static void ways() {
        LiquidChecker x = new LiquidChecker();
        for (int bad : new int[] {-1, 4, Integer.MIN_VALUE, Integer.MAX_VALUE}) {
            due(ARGUMENT, () -> x.ways(bad));
        }
        for (int i = 0; i < 6; i++) {
            put(x, 2 * i, 0, ANY, 4 + i);
            put(x, 2 * i + 1, 0, IF, 4 + i, 0, 0);
        }
        // Each IF holds the next one: the first other side ends at once.
        due(7, () -> x.ways(0));
        put(x, 0, 1, ANY, 4);
        put(x, 1, 1, IF, 4, 0, 0);
        put(x, 2, 1, END);
        put(x, 3, 1, IF, 1, 0, 0);
        put(x, 4, 1, END);
        put(x, 5, 1, IF, 2, 0, 0);
        put(x, 6, 1, END);
        put(x, 7, 1, IF, 1, 2, 0);
        put(x, 8, 1, END);
        // 1 <= 0 < 2 and 1 > 2 exclude each other, as do 2 <= 0 < 1 and 1 <= 2.
        due(12, () -> x.ways(1));
        put(x, 9, 1, IF, 4, 0, 0);
        put(x, 10, 1, RETURN, 0, 4, 0);
        put(x, 11, 1, IF, 1, 0, 5);
        due(12, () -> x.ways(1));
        put(x, 12, 1, CLAIM, 1, 0, -1);
        due(12, () -> x.ways(1));
        due(1, () -> x.refine(1, 0, 2, 2, -1));
        due(0, () -> x.ways(1));
        // Questions one above the other add a way each, an independent one doubles them.
        for (int i = 0; i < 4; i++) {
            put(x, 3 * i, 2, IF, 1, 0, 10 * i);
            put(x, 3 * i + 1, 2, ANY, 4);
            put(x, 3 * i + 2, 2, END);
        }
        due(5, () -> x.ways(2));
        put(x, 12, 2, IF, 2, 0, 0);
        put(x, 13, 2, END);
        due(10, () -> x.ways(2));
        put(x, 0, 3, ANY, 4);
        put(x, 1, 3, IF, 1, 0, 0);
        for (int i = 0; i < 5; i++) {
            put(x, 2 + 2 * i, 3, END);
            put(x, 3 + 2 * i, 3, IF, i < 1 ? 2 : 4, i < 3 ? 0 : i - 2, i % 2);
        }
        // 4 at most 0, 1, or more: 3 * 3, 3 * 2 and 3 * 3 answers about its distance from 1 and from 2.
        due(24, () -> x.ways(3));
    }

    private static void sixtyFourWays() {
        LiquidChecker x = new LiquidChecker();
        for (int i = 0; i < 3; i++) {
            put(x, i, 0, ANY, 4 + i);
        }
        int place = 3;
        for (int i = 0; i < 6; i++) {
            put(x, place++, 0, IF, i < 3 ? 4 + i : i < 5 ? i - 2 : 4, i < 5 ? 0 : 4, 0);
            put(x, place++, 0, END);
        }
        due(32, () -> x.ways(0));
        // With another name for the last question all six are independent.
        x.clear(0);
        for (int i = 0; i < 4; i++) {
            put(x, i, 0, ANY, 4 + i);
        }
        place = 4;
        for (int i = 0; i < 6; i++) {
            put(x, place++, 0, IF, i < 4 ? 4 + i : i - 3, 0, 0);
            put(x, place++, 0, END);
        }
        due(64, () -> x.ways(0));
        due(-1, () -> x.check(0));
        due(16, () -> x.count(0, 0));
        due(1, () -> x.refine(0, 1, 3, 0, -1));
        due(16, () -> x.check(0));
        due(64, () -> x.ways(0));
    }

    private static void comes() {
        LiquidChecker x = new LiquidChecker();
        put(x, 0, 0, IF, 1, 0, 0);
        put(x, 1, 0, IF, 0, 1, -1);
        put(x, 2, 0, ANY, 4);
        put(x, 3, 0, ELSE);
        put(x, 4, 0, RETURN, 0, 1, 0);
        put(x, 5, 0, END);
        put(x, 6, 0, ELSE);
        put(x, 7, 0, RETURN, 0, 1, 0);
        put(x, 8, 0, END);
        for (int bad : new int[] {-1, 10, Integer.MIN_VALUE, Integer.MAX_VALUE}) {
            due(ARGUMENT, () -> x.comes(0, bad));
            due(ARGUMENT, () -> x.comes(bad == 10 ? 4 : bad, 0));
        }
        int[] want = {1, 1, 0, 0, 1, 0, 0, 1, 0, 0};
        for (int p = 0; p < want.length; p++) {
            int place = p;
            due(want[p], () -> x.comes(0, place));
        }
        due(2, () -> x.ways(0));
        // The first side comes to its ELSE and goes on at the END; the other side starts behind it.
        put(x, 0, 1, IF, 1, 0, 0);
        put(x, 1, 1, ELSE);
        put(x, 2, 1, IF, 1, 0, 0);
        put(x, 3, 1, ANY, 4);
        due(1, () -> x.comes(1, 1));
        due(1, () -> x.comes(1, 2));
        due(0, () -> x.comes(1, 3));
        due(1, () -> x.comes(1, 4));
        due(0, () -> x.most(1, 1, 1, 0));
        due(-1, () -> x.most(1, 2, 0, 1));
        due(1, () -> x.refine(1, 0, 1, 0, 0));
        due(1, () -> x.comes(1, 1));
        due(0, () -> x.comes(1, 2));
        due(1, () -> x.comes(1, 4));
        due(2, () -> x.refine(1, 0, 0, 1, -1));
        due(0, () -> x.comes(1, 0));
        due(0, () -> x.comes(1, 4));
    }

    private static void mostArguments() {
        LiquidChecker x = new LiquidChecker();
        put(x, 0, 0, CLAIM, 0, 0, -1);
        for (int bad : new int[] {-1, 2, Integer.MIN_VALUE, Integer.MAX_VALUE}) {
            due(ARGUMENT, () -> x.most(0, bad, 0, 0));
        }
        for (int bad : new int[] {-1, 3, 12, Integer.MIN_VALUE, Integer.MAX_VALUE}) {
            due(ARGUMENT, () -> x.most(0, 1, bad, 0));
            due(ARGUMENT, () -> x.most(0, 1, 0, bad));
        }
        for (int bad : new int[] {-1, 4, Integer.MIN_VALUE, Integer.MAX_VALUE}) {
            due(ARGUMENT, () -> x.most(bad, 0, 0, 0));
        }
        due(NO_ELEMENT, () -> x.most(0, 1, 0, 0));
        due(NO_ELEMENT, () -> x.most(0, 1, 1, 0));
        due(0, () -> x.most(0, 0, 0, 0));
        due(0, () -> x.most(0, 0, 11, 11));
        due(ARITHMETIC, () -> x.most(0, 0, 11, 4));
    }

    private static void mostAnswers() {
        LiquidChecker x = new LiquidChecker();
        due(1, () -> x.refine(0, 0, 1, 0, 10));
        due(2, () -> x.refine(0, 0, 0, 1, 3));
        put(x, 0, 0, IF, 1, 0, 4);
        put(x, 1, 0, GIVE, 4, 1, 100);
        put(x, 2, 0, ELSE);
        put(x, 3, 0, GIVE, 4, 1, -100);
        put(x, 4, 0, END);
        put(x, 5, 0, GIVE, 5, 4, 0);
        put(x, 6, 0, GIVE, 4, 4, 7);
        due(4, () -> x.most(0, 1, 1, 0));
        due(10, () -> x.most(0, 3, 1, 0));
        due(-5, () -> x.most(0, 3, 0, 1));
        due(3, () -> x.most(0, 1, 0, 1));
        due(104, () -> x.most(0, 2, 4, 0));
        due(104, () -> x.most(0, 4, 4, 0));
        due(95, () -> x.most(0, 4, 0, 4));
        due(ARITHMETIC, () -> x.most(0, 3, 4, 0));
        due(104, () -> x.most(0, 6, 4, 0));
        due(111, () -> x.most(0, 7, 4, 0));
        due(7, () -> x.most(0, 7, 4, 5));
        due(-7, () -> x.most(0, 7, 5, 4));
        // A name that is not given on a way is one number there all the time.
        put(x, 0, 1, IF, 1, 0, 0);
        put(x, 1, 1, GIVE, 4, 0, 1);
        put(x, 2, 1, END);
        put(x, 3, 1, GIVE, 5, 4, 2);
        put(x, 4, 1, CLAIM, 5, 4, 2);
        put(x, 5, 1, CLAIM, 4, 0, 50);
        put(x, 6, 1, ANY, 4);
        due(5, () -> x.check(1));
        due(2, () -> x.most(1, 4, 5, 4));
        due(ARITHMETIC, () -> x.most(1, 5, 5, 0));
        due(52, () -> x.most(1, 6, 5, 0));
        due(52, () -> x.most(1, 7, 5, 0));
        due(ARITHMETIC, () -> x.most(1, 7, 4, 0));
        // The longest sums: sixteen times the greatest k.
        put(x, 0, 2, GIVE, 4, 0, 1000);
        for (int place = 1; place < 16; place++) {
            put(x, place, 2, GIVE, 4, 4, 1000);
        }
        due(16000, () -> x.most(2, 16, 4, 0));
        due(-16000, () -> x.most(2, 16, 0, 4));
    }

    private static void follows() {
        LiquidChecker x = new LiquidChecker();
        for (int bad : new int[] {-1, 4, Integer.MIN_VALUE, Integer.MAX_VALUE}) {
            due(ARGUMENT, () -> x.follows(bad, 0));
            due(ARGUMENT, () -> x.follows(0, bad));
        }
        due(1, () -> x.refine(0, 1, 3, 0, 5));
        due(1, () -> x.refine(1, 1, 3, 1, 2));
        due(0, () -> x.follows(0, 1));
        due(0, () -> x.follows(1, 0));
        // The demands of the other function do not help, its own do.
        due(1, () -> x.refine(1, 0, 1, 0, 3));
        due(0, () -> x.follows(0, 1));
        due(1, () -> x.refine(0, 0, 1, 0, 4));
        due(0, () -> x.follows(0, 1));
        due(2, () -> x.refine(0, 0, 1, 0, 3));
        due(1, () -> x.follows(0, 1));
        due(0, () -> x.follows(1, 0));
        due(1, () -> x.follows(0, 0));
        due(1, () -> x.follows(2, 0));
        due(0, () -> x.follows(0, 2));
        // Where the other's promises allow no result, every promise is kept.
        due(1, () -> x.refine(3, 1, 3, 3, -1));
        due(1, () -> x.follows(0, 3));
        due(0, () -> x.follows(3, 0));
        // All promises are to be shown, not only the first.
        due(2, () -> x.refine(0, 1, 2, 3, 0));
        due(0, () -> x.follows(0, 1));
        due(2, () -> x.refine(1, 1, 2, 3, 0));
        due(1, () -> x.follows(0, 1));
    }

    private static void count() {
        LiquidChecker x = new LiquidChecker();
        for (int bad : new int[] {-1, 4, Integer.MIN_VALUE, Integer.MAX_VALUE}) {
            due(ARGUMENT, () -> x.count(bad, 0));
            due(ARGUMENT, () -> x.count(0, bad));
        }
        put(x, 0, 2, IF, 1, 0, 0);
        put(x, 1, 2, IF, 1, 0, 0);
        put(x, 2, 2, END);
        put(x, 3, 2, ELSE);
        put(x, 4, 2, IF, 1, 0, 0);
        due(1, () -> x.refine(2, 0, 0, 0, 0));
        due(1, () -> x.refine(2, 1, 0, 0, 0));
        due(2, () -> x.refine(2, 1, 0, 0, 0));
        due(3, () -> x.refine(2, 1, 0, 0, 0));
        due(5, () -> x.count(2, 0));
        due(2, () -> x.count(2, 1));
        due(1, () -> x.count(2, 2));
        due(3, () -> x.count(2, 3));
        put(x, 5, 2, END);
        put(x, 6, 2, END);
        due(0, () -> x.count(2, 1));
        due(7, () -> x.count(2, 0));
    }

    /** Arguments at the ends of int never bring anything but the exception that is due. */
    private static void extremes() {
        LiquidChecker x = new LiquidChecker();
        for (int e : new int[] {Integer.MIN_VALUE, Integer.MAX_VALUE}) {
            due(ARGUMENT, () -> x.refine(e, e, e, e, e));
            due(ARGUMENT, () -> x.statement(e, e, e, e, e, e));
            due(ARGUMENT, () -> x.most(e, e, e, e));
            due(ARGUMENT, () -> x.comes(e, e));
            due(ARGUMENT, () -> x.follows(e, e));
            due(ARGUMENT, () -> x.count(e, e));
        }
    }

    public static void main(String[] args) {
        sentence("Promise 1: a new object", unused -> newObject());
        sentence("Promise 2: refine", unused -> refine());
        sentence("Promise 3: statement, its arguments", unused -> statementArguments());
        sentence("Promise 3: statement, the order of testing", unused -> statementOrderOfTesting());
        sentence("Promise 3: statement, IFs", unused -> statementIfs());
        sentence("Promise 4: clear", unused -> clear());
        sentence("Promise 5: check, RETURNs and CLAIMs", unused -> checkReturnsAndClaims());
        sentence("Promise 5: check, CALLs", unused -> checkCalls());
        sentence("Promise 6: ways", unused -> ways());
        sentence("Promise 6: ways, all 64", unused -> sixtyFourWays());
        sentence("Promise 7: comes", unused -> comes());
        sentence("Promise 8: most, its arguments", unused -> mostArguments());
        sentence("Promise 8: most, its answers", unused -> mostAnswers());
        sentence("Promise 9: follows", unused -> follows());
        sentence("Promise 10: count", unused -> count());
        sentence("All promises: arguments at the ends of int", unused -> extremes());
        endOfTests();
    }
}
