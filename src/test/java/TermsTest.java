/** Each sentence of "What it is" and of the document's "Terms" that names a boundary case. */
public final class TermsTest extends Sentences {
    /** Six questions that nothing binds together, in a function that is full. */
    private static void sixtyFourWays(LiquidChecker x, int function) {
        Lines lines = on(x, function);
        for (int name : within(4, 7)) {
            lines.any(name);
        }
        for (int name : new int[] {1, 2, 4, 5, 6, 7}) {
            lines.when(name, 0, 0).end();
        }
    }

    private static void limitOfCalls() {
        sentence("An object is used for at most 512 calls after it has been made: the 512th answers", x -> {
            sixtyFourWays(x, 3);
            // The 16 statements, and the three numbers that Lines asks first.
            int calls = 19;
            for (; calls < 500; calls += 4) {
                due(64, () -> x.ways(3));
                due(-1, () -> x.check(3));
                due(ARITHMETIC, () -> x.most(3, 16, 4, 0));
                due(STATE, () -> x.statement(3, ANY, 4, 0, 0, 0));
            }
            same(503, calls);
            due(16, () -> x.clear(3));
            due(1, () -> x.refine(3, PROMISE, 3, 0, 0));
            due(0, () -> x.statement(3, GIVE, 11, 1, 0, 1000));
            due(1, () -> x.statement(3, RETURN, 0, 11, 0, -1000));
            due(1, () -> x.check(3));
            due(1, () -> x.refine(3, DEMAND, 1, 0, 0));
            due(-1, () -> x.check(3));
            due(1, () -> x.ways(3));
            due(1000, () -> x.most(3, 1, 11, 0));
        });
        sentence("An object is used for at most 512 calls: 512 of the dearest ones, on many objects", unused -> {
            for (int object = 0; object < 40; object++) {
                LiquidChecker x = new LiquidChecker();
                sixtyFourWays(x, 0);
                for (int call = 19; call < 512; call++) {
                    due(1, () -> x.comes(0, 16));
                }
            }
        });
    }

    private static void numbers() {
        sentence("NUMBERS are integers: none lies between two that follow on each other", x -> {
            on(x, 0).when(1, 0, 0).otherwise().when(1, 0, 1).any(4).when(0, 1, -2).any(5);
            due(1, () -> x.most(0, 3, 1, 0));
            due(-1, () -> x.most(0, 3, 0, 1));
            comesTo(x, 0, 1, 1, 1, 1, 1, 0, 1);
            due(3, () -> x.ways(0));
        });
        sentence("NUMBERS are without bounds: sums go as far as they can and stay exact", x -> {
            on(x, 0).demands(1, 0, 1000).demands(2, 1, 1000).demands(0, 1, -1000).demands(1, 2, -1000);
            Lines up = on(x, 0).give(4, 2, 1000);
            Lines down = on(x, 1).demands(1, 0, -1000).demands(2, 1, -1000).give(4, 2, -1000);
            for (int place = 1; place < 16; place++) {
                up.give(4, 4, 1000);
                down.give(4, 4, -1000);
            }
            due(18000, () -> x.most(0, 16, 4, 0));
            due(-18000, () -> x.most(0, 16, 0, 4));
            due(17000, () -> x.most(0, 15, 4, 0));
            due(16000, () -> x.most(0, 16, 4, 2));
            due(-18000, () -> x.most(1, 16, 4, 0));
            due(ARITHMETIC, () -> x.most(1, 16, 0, 4));
            due(-16000, () -> x.most(1, 16, 4, 2));
            due(16000, () -> x.most(1, 16, 2, 4));
        });
        sentence("NUMBERS are without bounds: what nothing binds is as great and as small as one likes", x -> {
            for (int name : new int[] {1, 2, 4, 11}) {
                due(ARITHMETIC, () -> x.most(0, 0, name, 0));
                due(ARITHMETIC, () -> x.most(0, 0, 0, name));
            }
        });
    }

    private static void names() {
        sentence("0 is the number 0", x -> {
            on(x, 0).give(4, 0, 0).give(5, 0, 7).give(6, 0, -7);
            due(0, () -> x.most(0, 3, 4, 0));
            due(0, () -> x.most(0, 3, 0, 4));
            due(7, () -> x.most(0, 3, 5, 0));
            due(14, () -> x.most(0, 3, 5, 6));
            due(0, () -> x.most(0, 3, 0, 0));
            // It is the number 0 for the function called as well.
            on(x, 1).promises(3, 0, 5).promises(0, 3, -5);
            on(x, 0).call(7, 1, 5, 6);
            due(5, () -> x.most(0, 4, 7, 0));
            due(-2, () -> x.most(0, 4, 7, 5));
        });
        sentence("1 and 2 are its parameters", x -> {
            on(x, 0).demands(1, 0, 3).demands(2, 0, 4).demands(0, 2, -4).give(4, 1, 0).give(5, 2, 0);
            due(3, () -> x.most(0, 2, 4, 0));
            due(ARITHMETIC, () -> x.most(0, 2, 0, 4));
            due(4, () -> x.most(0, 2, 5, 0));
            due(-4, () -> x.most(0, 2, 0, 5));
            due(-1, () -> x.most(0, 2, 1, 2));
        });
        sentence("3 is its RESULT (in promises alone): a promise may name it on either side", x -> {
            on(x, 0).promises(3, 0, 0).promises(0, 3, 0).promises(3, 3, 0).promises(1, 2, 0);
            on(x, 1).demands(1, 2, 0);
            on(x, 0).demands(1, 2, 0);
            due(-1, () -> x.check(0));
        });
        sentence("3 is its RESULT (in promises alone): nothing else may name it", x -> {
            due(ARGUMENT, () -> x.refine(0, DEMAND, 3, 0, 0));
            due(ARGUMENT, () -> x.refine(0, DEMAND, 0, 3, 0));
            due(ARGUMENT, () -> x.statement(0, GIVE, 3, 1, 1, 0));
            due(ARGUMENT, () -> x.statement(0, GIVE, 4, 3, 1, 0));
            due(ARGUMENT, () -> x.statement(0, CALL, 3, 1, 1, 0));
            due(ARGUMENT, () -> x.statement(0, CALL, 4, 3, 1, 0));
            due(ARGUMENT, () -> x.statement(0, CALL, 4, 1, 3, 0));
            due(ARGUMENT, () -> x.statement(0, IF, 3, 1, 1, 0));
            due(ARGUMENT, () -> x.statement(0, IF, 1, 3, 1, 0));
            due(ARGUMENT, () -> x.statement(0, CLAIM, 3, 1, 1, 0));
            due(ARGUMENT, () -> x.statement(0, CLAIM, 1, 3, 1, 0));
            due(ARGUMENT, () -> x.statement(0, RETURN, 1, 3, 1, 0));
            due(ARGUMENT, () -> x.statement(0, ANY, 3, 1, 1, 0));
            due(ARGUMENT, () -> x.most(0, 0, 3, 0));
            due(ARGUMENT, () -> x.most(0, 0, 0, 3));
        });
        sentence("4 to 11 are given by statements: all eight at once, each its own number", x -> {
            Lines lines = on(x, 0);
            for (int name : within(4, 11)) {
                lines.give(name, 1, 10 * name);
            }
            for (int name : within(4, 11)) {
                due(10 * name, () -> x.most(0, 8, name, 1));
                due(-10 * name, () -> x.most(0, 8, 1, name));
                due(10 * name - 40, () -> x.most(0, 8, name, 4));
                due(10 * name - 110, () -> x.most(0, 8, name, 11));
            }
        });
    }

    private static void relations() {
        sentence("A RELATION (a, b, k) says that a - b is at most k: it holds at k, and not above", unused -> {
            for (int k : new int[] {-1000, -1, 0, 1, 999}) {
                LiquidChecker x = new LiquidChecker();
                on(x, 0).give(4, 1, k).claim(4, 1, k + 1).claim(4, 1, k).claim(1, 4, -k);
                due(-1, () -> x.check(0));
                on(x, 1).give(4, 1, k + 1).claim(4, 1, k);
                due(1, () -> x.check(1));
            }
        });
        sentence("k (-1000 .. 1000): both ends are taken for what they are", x -> {
            on(x, 0).demands(1, 0, 1000).demands(0, 2, -1000).claim(1, 0, 1000).claim(0, 2, -1000).claim(1, 0, 999);
            due(1000, () -> x.most(0, 0, 1, 0));
            due(-1000, () -> x.most(0, 0, 0, 2));
            due(2, () -> x.check(0));
        });
        sentence("A RELATION of a name with itself says that 0 is at most k", x -> {
            on(x, 0).claim(1, 1, 0).claim(0, 0, 0).claim(2, 2, 1000).when(1, 1, 0).end();
            due(-1, () -> x.check(0));
            due(1, () -> x.ways(0));
            on(x, 0).when(2, 2, -1).any(4).end();
            due(1, () -> x.ways(0));
            due(0, () -> x.comes(0, 6));
            on(x, 0).claim(0, 0, -1);
            due(8, () -> x.check(0));
            due(0, () -> x.ways(0));
        });
    }

    /** What check answers of a function with four promises that gives a result for a first parameter. */
    private static int checkOfPromises(int result, int parameter) {
        LiquidChecker x = new LiquidChecker();
        on(x, 1).promises(3, 0, 1).promises(0, 3, 2).promises(3, 1, 3).promises(1, 3, 4)
                .demands(1, 0, parameter).demands(0, 1, -parameter).returns(0, result);
        return x.check(1);
    }

    private static void sizes() {
        sentence("FUNCTIONS 0 .. 3 each have up to 4 DEMANDS, 4 PROMISES and 16 STATEMENTS, at places from 0", x -> {
            for (int f : within(0, 3)) {
                Lines lines = on(x, f);
                for (int n : within(1, 4)) {
                    lines.demands(1, 0, 100 * f + n).promises(3, 0, 100 * f + n);
                }
                lines.filledTo(16);
            }
            for (int f : within(0, 3)) {
                due(STATE, () -> x.refine(f, DEMAND, 1, 0, 0));
                due(STATE, () -> x.refine(f, PROMISE, 1, 0, 0));
                due(STATE, () -> x.statement(f, ANY, 4, 0, 0, 0));
                due(16, () -> x.count(f, STATEMENTS));
                due(4, () -> x.count(f, DEMANDS));
                due(4, () -> x.count(f, PROMISES));
                due(100 * f + 1, () -> x.most(f, 16, 1, 0));
                due(-1, () -> x.check(f));
            }
        });
        sentence("up to 4 DEMANDS: each of the four is known, and each is demanded of who calls", x -> {
            on(x, 1).demands(1, 0, 1).demands(0, 1, 2).demands(2, 0, 3).demands(0, 2, 4).any(4);
            due(1, () -> x.most(1, 0, 1, 0));
            due(2, () -> x.most(1, 0, 0, 1));
            due(3, () -> x.most(1, 1, 2, 0));
            due(4, () -> x.most(1, 1, 0, 2));
            int[][] met = {{1, 3}, {-2, -4}, {1, -4}, {-2, 3}};
            int[][] broken = {{2, 3}, {-3, -4}, {1, 4}, {-2, -5}};
            for (int[] numbers : met) {
                on(x, 0).give(4, 0, numbers[0]).give(5, 0, numbers[1]).call(6, 1, 4, 5);
                due(-1, () -> x.check(0));
                due(3, () -> x.clear(0));
            }
            for (int[] numbers : broken) {
                on(x, 0).give(4, 0, numbers[0]).give(5, 0, numbers[1]).call(6, 1, 4, 5);
                due(2, () -> x.check(0));
                due(3, () -> x.clear(0));
            }
        });
        sentence("up to 4 PROMISES: each of the four is held to, and each is known of a CALL", x -> {
            on(x, 1).promises(3, 0, 1).promises(0, 3, 2).promises(3, 1, 3).promises(1, 3, 4);
            on(x, 0).call(4, 1, 1, 2);
            due(1, () -> x.most(0, 1, 4, 0));
            due(2, () -> x.most(0, 1, 0, 4));
            due(3, () -> x.most(0, 1, 4, 1));
            due(4, () -> x.most(0, 1, 1, 4));
            int[][] kept = {{1, -2}, {-2, -5}, {1, 5}, {-2, 2}};
            int[][] broken = {{2, 0}, {-3, -3}, {1, -3}, {-2, 3}};
            for (int i : within(0, 3)) {
                due(-1, () -> checkOfPromises(kept[i][0], kept[i][1]));
                due(0, () -> checkOfPromises(broken[i][0], broken[i][1]));
            }
        });
        sentence("up to 16 STATEMENTS, at places from 0: the first and the last are followed like the rest", x -> {
            on(x, 0).any(4).filledTo(15).claim(4, 0, 0);
            due(15, () -> x.check(0));
            due(0, () -> x.most(0, 16, 4, 0));
            due(ARITHMETIC, () -> x.most(0, 15, 4, 0));
            on(x, 1).claim(1, 0, 0).filledTo(16);
            due(0, () -> x.check(1));
            due(0, () -> x.most(1, 1, 1, 0));
            due(ARITHMETIC, () -> x.most(1, 0, 1, 0));
            on(x, 2).promises(3, 0, 0).filledTo(15).returns(0, 1);
            due(15, () -> x.check(2));
            comesTo(x, 2, 1, 1, 1, 1, 1, 1, 1, 1, 1, 1, 1, 1, 1, 1, 1, 1, 0);
        });
    }

    private static void kindsThatGive() {
        sentence("GIVE: a becomes b + k, at both ends of k", x -> {
            on(x, 0).give(4, 1, 1000).give(5, 1, -1000).give(6, 4, 0);
            due(1000, () -> x.most(0, 1, 4, 1));
            due(-1000, () -> x.most(0, 1, 1, 4));
            due(-1000, () -> x.most(0, 2, 5, 1));
            due(1000, () -> x.most(0, 2, 1, 5));
            due(2000, () -> x.most(0, 3, 6, 5));
            due(0, () -> x.most(0, 3, 6, 4));
            due(ARITHMETIC, () -> x.most(0, 0, 4, 1));
        });
        sentence("GIVE: a becomes b + k, where b is a itself", x -> {
            on(x, 0).give(4, 1, 1).give(5, 4, 0).give(4, 4, 10).give(4, 4, 0);
            due(11, () -> x.most(0, 4, 4, 1));
            due(-11, () -> x.most(0, 4, 1, 4));
            due(10, () -> x.most(0, 4, 4, 5));
            due(1, () -> x.most(0, 4, 5, 1));
        });
        sentence("CALL: a becomes what function k gives for the numbers b and c, for every function", x -> {
            for (int f : within(0, 3)) {
                on(x, f).promises(3, 1, f).promises(2, 3, 10 * f);
            }
            for (int f : within(0, 3)) {
                on(x, 0).call(4 + f, f, 1, 2);
                due(f, () -> x.most(0, f + 1, 4 + f, 1));
                due(10 * f, () -> x.most(0, f + 1, 2, 4 + f));
            }
        });
        sentence("CALL: b is the first parameter and c the second, also where they are one name or 0", x -> {
            on(x, 1).promises(3, 1, 5).promises(2, 3, 7).demands(1, 2, 0);
            on(x, 0).call(4, 1, 2, 1).call(5, 1, 0, 1).call(6, 1, 1, 0).call(7, 1, 2, 2);
            due(5, () -> x.most(0, 4, 4, 2));
            due(7, () -> x.most(0, 4, 1, 4));
            due(5, () -> x.most(0, 4, 5, 0));
            due(7, () -> x.most(0, 4, 1, 5));
            due(5, () -> x.most(0, 4, 6, 1));
            due(7, () -> x.most(0, 4, 0, 6));
            due(5, () -> x.most(0, 4, 7, 2));
            due(7, () -> x.most(0, 4, 2, 7));
            on(x, 2).call(4, 1, 2, 2);
            due(-1, () -> x.check(2));
            on(x, 2).call(4, 1, 2, 1);
            due(1, () -> x.check(2));
        });
        sentence("CALL: b and c are the numbers before the call, also where a names one of them or both", x -> {
            on(x, 1).promises(3, 1, -1).promises(2, 3, -1);
            on(x, 0).give(4, 1, 10).give(5, 1, 0).call(4, 1, 4, 5);
            due(9, () -> x.most(0, 3, 4, 1));
            due(-1, () -> x.most(0, 3, 1, 4));
            on(x, 2).give(4, 1, 10).give(5, 1, 0).call(5, 1, 4, 5);
            due(9, () -> x.most(2, 3, 5, 1));
            due(-1, () -> x.most(2, 3, 1, 5));
            due(10, () -> x.most(2, 3, 4, 1));
            on(x, 3).give(4, 1, 10).call(4, 1, 4, 4);
            due(0, () -> x.comes(3, 2));
            due(2, () -> x.clear(3));
            on(x, 2).promises(3, 1, -1).promises(2, 3, 1);
            on(x, 3).give(4, 1, 10).call(4, 2, 4, 4);
            due(9, () -> x.most(3, 2, 4, 1));
            due(-9, () -> x.most(3, 2, 1, 4));
        });
        sentence("ANY: a becomes any number, and is bound to none any more", x -> {
            on(x, 0).give(4, 1, 5).any(4);
            due(5, () -> x.most(0, 1, 4, 1));
            due(ARITHMETIC, () -> x.most(0, 2, 4, 1));
            due(ARITHMETIC, () -> x.most(0, 2, 1, 4));
            due(0, () -> x.most(0, 2, 4, 4));
            due(1, () -> x.ways(0));
        });
        sentence("a may have been given before: from then on it names the new number, the old one stays what it was", x -> {
            on(x, 1).promises(3, 0, 0);
            on(x, 0).give(4, 1, 5).give(5, 4, 1).give(4, 2, 0).give(6, 4, 0).call(4, 1, 0, 0).give(7, 4, 0).any(4);
            due(5, () -> x.most(0, 1, 4, 1));
            due(5, () -> x.most(0, 2, 4, 1));
            due(ARITHMETIC, () -> x.most(0, 3, 4, 1));
            due(0, () -> x.most(0, 3, 4, 2));
            due(6, () -> x.most(0, 7, 5, 1));
            due(-6, () -> x.most(0, 7, 1, 5));
            due(0, () -> x.most(0, 7, 6, 2));
            due(0, () -> x.most(0, 7, 7, 0));
            due(ARITHMETIC, () -> x.most(0, 5, 4, 2));
            due(0, () -> x.most(0, 5, 4, 0));
            due(ARITHMETIC, () -> x.most(0, 7, 4, 0));
        });
        sentence("a name that is given again: what its old number bound together stays bound", x -> {
            on(x, 0).any(4).when(4, 1, 3).when(2, 4, 4).any(4).claim(2, 1, 7).claim(2, 1, 6);
            due(7, () -> x.most(0, 4, 2, 1));
            due(5, () -> x.check(0));
            on(x, 1).any(4).claim(4, 1, 0).claim(2, 4, -1).give(4, 0, 0).when(1, 2, 0).any(5);
            due(0, () -> x.comes(1, 5));
            due(1, () -> x.ways(1));
        });
    }

    private static void sides() {
        sentence("a way goes on behind the IF, and when it comes to its ELSE, at its END", x -> {
            on(x, 0).when(1, 0, 0).give(4, 0, 1).otherwise().give(4, 0, 2).end().any(5);
            on(x, 0).demands(1, 0, 0);
            comesTo(x, 0, 1, 1, 1, 0, 1, 1, 1);
            due(1, () -> x.most(0, 6, 4, 0));
            due(-1, () -> x.most(0, 6, 0, 4));
        });
        sentence("or else behind its ELSE", x -> {
            on(x, 0).when(1, 0, 0).give(4, 0, 1).otherwise().give(4, 0, 2).end().any(5);
            on(x, 0).demands(0, 1, -1);
            comesTo(x, 0, 1, 0, 0, 1, 1, 1, 1);
            due(2, () -> x.most(0, 6, 4, 0));
            due(-2, () -> x.most(0, 6, 0, 4));
        });
        sentence("or without one at its END", x -> {
            on(x, 0).when(1, 0, 0).give(4, 0, 1).end().any(5);
            on(x, 0).demands(0, 1, -1);
            comesTo(x, 0, 1, 0, 1, 1, 1);
            due(ARITHMETIC, () -> x.most(0, 2, 4, 0));
        });
        sentence("an IF with nothing up to its END: two ways, and both know what they chose up to the end", x -> {
            on(x, 0).when(1, 0, 0).end().when(1, 0, 0).any(4);
            due(2, () -> x.ways(0));
            comesTo(x, 0, 1, 1, 1, 1, 1);
            due(0, () -> x.most(0, 3, 1, 0));
        });
        sentence("an IF with nothing up to its ELSE, and an ELSE with nothing up to its END", x -> {
            on(x, 0).when(1, 0, 0).otherwise().end();
            comesTo(x, 0, 1, 1, 1, 1);
            due(2, () -> x.ways(0));
            due(0, () -> x.most(0, 1, 1, 0));
            due(ARITHMETIC, () -> x.most(0, 2, 1, 0));
            on(x, 0).demands(0, 1, -1);
            comesTo(x, 0, 1, 0, 1, 1);
            due(1, () -> x.ways(0));
        });
        sentence("an ELSE belongs to the innermost IF that is open, an END as well", x -> {
            on(x, 0).when(1, 0, 0).when(2, 0, 0).give(4, 0, 1).otherwise().give(4, 0, 2).end()
                    .otherwise().give(4, 0, 3).end();
            due(3, () -> x.ways(0));
            due(1, () -> x.most(0, 3, 4, 0));
            due(0, () -> x.most(0, 4, 1, 0));
            due(-1, () -> x.most(0, 4, 0, 2));
            due(2, () -> x.most(0, 6, 4, 0));
            due(-1, () -> x.most(0, 7, 0, 1));
            due(ARITHMETIC, () -> x.most(0, 7, 2, 0));
            due(3, () -> x.most(0, 9, 4, 0));
            due(-1, () -> x.most(0, 9, 0, 4));
        });
        sentence("an IF inside an ELSE: its END is not that of the outer one", x -> {
            on(x, 0).when(1, 0, 0).otherwise().when(1, 0, 5).give(4, 0, 1).end().give(5, 0, 1).end().any(6);
            due(3, () -> x.ways(0));
            due(-1, () -> x.most(0, 5, 0, 1));
            due(5, () -> x.most(0, 3, 1, 0));
            due(ARITHMETIC, () -> x.most(0, 6, 5, 0));
            on(x, 0).demands(0, 1, -1);
            due(1, () -> x.most(0, 6, 5, 0));
        });
    }

    private static void lackingEnds() {
        sentence("IFs whose END lacks have it behind the last statement: an IF that is the last statement", x -> {
            on(x, 0).when(1, 0, 0);
            comesTo(x, 0, 1, 1);
            due(2, () -> x.ways(0));
            on(x, 0).promises(3, 1, 0);
            due(1, () -> x.check(0));
            on(x, 0).demands(0, 1, 0);
            due(-1, () -> x.check(0));
        });
        sentence("IFs whose END lacks have it behind the last statement: with an ELSE that is the last statement", x -> {
            on(x, 0).when(1, 0, 0).any(4).otherwise();
            comesTo(x, 0, 1, 1, 1, 1);
            due(2, () -> x.ways(0));
            on(x, 0).demands(1, 0, 0);
            comesTo(x, 0, 1, 1, 1, 1);
            due(1, () -> x.ways(0));
        });
        sentence("IFs whose END lacks have it behind the last statement: with statements behind the ELSE", x -> {
            on(x, 0).when(1, 0, 0).otherwise().give(4, 0, 1).returns(4, 0);
            comesTo(x, 0, 1, 1, 1, 1, 1);
            due(2, () -> x.ways(0));
            due(0, () -> x.most(0, 4, 1, 0));
            due(-1, () -> x.most(0, 3, 0, 1));
        });
        sentence("IFs whose END lacks: one more statement goes behind the IF, and its END behind that one", x -> {
            on(x, 0).demands(0, 1, -1).when(1, 0, 0);
            comesTo(x, 0, 1, 1);
            on(x, 0).any(4);
            comesTo(x, 0, 1, 0, 1);
            on(x, 0).any(5);
            comesTo(x, 0, 1, 0, 0, 1);
            on(x, 0).end();
            comesTo(x, 0, 1, 0, 0, 1, 1);
            on(x, 0).any(6);
            comesTo(x, 0, 1, 0, 0, 1, 1, 1);
        });
        sentence("IFs whose END lacks: six of them, in a function that is full", x -> {
            Lines lines = on(x, 0);
            for (int i = 0; i < 6; i++) {
                lines.when(1, 0, 10 - i);
            }
            lines.filledTo(16);
            due(6, () -> x.count(0, OPEN_IFS));
            due(7, () -> x.ways(0));
            due(5, () -> x.most(0, 15, 1, 0));
            due(ARITHMETIC, () -> x.most(0, 16, 1, 0));
            on(x, 0).demands(0, 1, -6);
            comesTo(x, 0, 1, 1, 1, 1, 1, 1, 0, 0, 0, 0, 0, 0, 0, 0, 0, 0, 1);
            due(6, () -> x.ways(0));
        });
    }

    private static void behindTheLast() {
        sentence("a way that comes behind the last statement RETURNs 0: in an empty function", x -> {
            on(x, 0).promises(3, 0, 0).promises(0, 3, 0);
            due(-1, () -> x.check(0));
            due(1, () -> x.ways(0));
            due(1, () -> x.comes(0, 0));
            on(x, 1).promises(3, 0, -1);
            due(0, () -> x.check(1));
            on(x, 2).promises(0, 3, -1);
            due(0, () -> x.check(2));
        });
        sentence("a way that comes behind the last statement RETURNs 0: in a full function", x -> {
            on(x, 0).promises(3, 0, 0).promises(0, 3, 0).any(4).filledTo(16);
            due(-1, () -> x.check(0));
            due(1, () -> x.ways(0));
            due(1, () -> x.comes(0, 16));
            on(x, 0).promises(3, 0, -1);
            due(16, () -> x.check(0));
        });
        sentence("a way that comes behind the last statement RETURNs 0: only where no RETURN came before", x -> {
            on(x, 0).promises(3, 0, 5).promises(0, 3, -5).when(1, 0, 0).returns(0, 5).end();
            due(3, () -> x.check(0));
            on(x, 0).returns(0, 5);
            due(-1, () -> x.check(0));
            due(0, () -> x.comes(0, 4));
            due(2, () -> x.ways(0));
        });
    }

    private static void ways() {
        sentence("A WAY is a choice for every IF that it comes to: none for those it does not come to", x -> {
            on(x, 0).when(1, 0, 0).when(2, 0, 0).end().otherwise().end();
            due(3, () -> x.ways(0));
            on(x, 0).any(4).when(4, 0, 0);
            due(6, () -> x.ways(0));
        });
        sentence("A WAY is a choice for every IF: six of them make 64 ways", x -> {
            sixtyFourWays(x, 0);
            due(64, () -> x.ways(0));
            on(x, 0).demands(1, 0, 0);
            due(32, () -> x.ways(0));
            on(x, 0).demands(0, 2, -1);
            due(16, () -> x.ways(0));
        });
        sentence("up to a RETURN: nothing behind it is come to, and no IF behind it makes a way", x -> {
            on(x, 0).returns(0, 0).when(1, 0, 0).claim(0, 0, -1);
            comesTo(x, 0, 1, 0, 0, 0);
            due(1, () -> x.ways(0));
            due(-1, () -> x.check(0));
            due(NO_ELEMENT, () -> x.most(0, 1, 0, 0));
        });
        sentence("it begins at place 0: also where that is an IF, and where there is no statement", x -> {
            due(1, () -> x.comes(0, 0));
            due(1, () -> x.ways(0));
            on(x, 0).when(1, 0, 0);
            due(1, () -> x.comes(0, 0));
            due(ARITHMETIC, () -> x.most(0, 0, 1, 0));
            due(0, () -> x.most(0, 0, 11, 11));
        });
        sentence("A name that is not given on a way is any number there", x -> {
            on(x, 0).when(1, 0, 0).give(4, 0, 1).otherwise().claim(4, 0, 1).end();
            due(3, () -> x.check(0));
            due(ARITHMETIC, () -> x.most(0, 3, 4, 0));
            due(1, () -> x.most(0, 5, 4, 0));
            on(x, 1).returns(0, 0).any(4).claim(4, 0, 0);
            due(-1, () -> x.check(1));
        });
        sentence("A name that is not given on a way is always the same there", x -> {
            on(x, 0).demands(0, 1, -1).when(1, 0, 0).any(4).end().give(5, 4, 0).any(6).give(7, 4, 2)
                    .when(4, 0, 0).end().when(4, 0, 0).end().claim(7, 5, 2).claim(5, 7, -2);
            due(-1, () -> x.check(0));
            due(2, () -> x.ways(0));
            due(2, () -> x.most(0, 12, 7, 5));
            due(2, () -> x.most(0, 12, 7, 4));
        });
        sentence("A name that is not given on a way: another way's number for it does not bind this one", x -> {
            on(x, 0).when(1, 0, 0).any(4).claim(4, 0, 7).end();
            due(ARITHMETIC, () -> x.most(0, 3, 4, 0));
            on(x, 0).demands(1, 0, 0);
            due(7, () -> x.most(0, 3, 4, 0));
        });
    }

    private static void known() {
        sentence("What is KNOWN: the function's demands, from place 0 on to the end", x -> {
            on(x, 0).demands(1, 2, -3).any(4).when(2, 0, 0).any(5);
            for (int place : within(0, 3)) {
                due(-3, () -> x.most(0, place, 1, 2));
            }
            due(-3, () -> x.most(0, 2, 1, 0));
            on(x, 0).demands(1, 2, -4);
            due(-4, () -> x.most(0, 0, 1, 2));
        });
        sentence("What is KNOWN: not the function's own promises", x -> {
            on(x, 0).promises(1, 2, 5).promises(3, 0, 0);
            due(ARITHMETIC, () -> x.most(0, 0, 1, 2));
            due(0, () -> x.check(0));
        });
        sentence("of a CALL the promises of the function called, and not its demands", x -> {
            on(x, 1).demands(1, 0, 5).promises(3, 2, 0).promises(2, 0, 9);
            on(x, 0).call(4, 1, 1, 2);
            due(ARITHMETIC, () -> x.most(0, 1, 1, 0));
            due(0, () -> x.most(0, 1, 4, 2));
            due(9, () -> x.most(0, 1, 2, 0));
            due(9, () -> x.most(0, 1, 4, 0));
            due(ARITHMETIC, () -> x.most(0, 0, 2, 0));
        });
        sentence("of a CALL the promises that the function called has now", x -> {
            on(x, 0).call(4, 1, 1, 2);
            due(ARITHMETIC, () -> x.most(0, 1, 4, 0));
            on(x, 1).promises(3, 0, 6);
            due(6, () -> x.most(0, 1, 4, 0));
            on(x, 1).promises(3, 0, 5).demands(1, 0, 0);
            due(5, () -> x.most(0, 1, 4, 0));
            due(0, () -> x.check(0));
            due(0, () -> x.clear(1));
            due(ARITHMETIC, () -> x.most(0, 1, 4, 0));
            due(-1, () -> x.check(0));
        });
        sentence("of a CALL of a function without promises nothing is known but that there is a number", x -> {
            on(x, 0).give(4, 1, 0).call(4, 1, 4, 4);
            due(ARITHMETIC, () -> x.most(0, 2, 4, 1));
            due(ARITHMETIC, () -> x.most(0, 2, 1, 4));
            due(1, () -> x.ways(0));
        });
        sentence("two CALLs for the same numbers need not give the same", x -> {
            on(x, 1).promises(3, 1, 0).promises(1, 3, 2);
            on(x, 0).call(4, 1, 1, 2).call(5, 1, 1, 2).claim(4, 5, 2).claim(4, 5, 1);
            due(3, () -> x.check(0));
        });
        sentence("of an IF the relation, or on its other side that b - a is at most -k - 1, at both ends of k", unused -> {
            for (int k : new int[] {-1000, -1, 0, 999, 1000}) {
                LiquidChecker x = new LiquidChecker();
                on(x, 0).when(1, 2, k).any(4).otherwise().any(4);
                due(k, () -> x.most(0, 1, 1, 2));
                due(ARITHMETIC, () -> x.most(0, 1, 2, 1));
                due(-k - 1, () -> x.most(0, 3, 2, 1));
                due(ARITHMETIC, () -> x.most(0, 3, 1, 2));
                due(2, () -> x.ways(0));
            }
        });
        sentence("of a CLAIM, behind it, the relation: not before it, and also where it is not shown", x -> {
            on(x, 0).claim(1, 0, 4).claim(1, 0, 4).claim(1, 0, 3).claim(1, 0, 9);
            due(ARITHMETIC, () -> x.most(0, 0, 1, 0));
            due(4, () -> x.most(0, 1, 1, 0));
            due(4, () -> x.most(0, 2, 1, 0));
            due(3, () -> x.most(0, 3, 1, 0));
            due(3, () -> x.most(0, 4, 1, 0));
            due(0, () -> x.check(0));
            on(x, 0).demands(1, 0, 4);
            due(2, () -> x.check(0));
        });
    }

    private static void feasible() {
        sentence("where no numbers are left: demands that exclude each other leave no place at all", x -> {
            on(x, 0).demands(1, 0, 5).demands(0, 1, -5).claim(0, 0, -1).promises(3, 3, -1);
            due(1, () -> x.comes(0, 0));
            due(0, () -> x.check(0));
            due(5, () -> x.most(0, 0, 1, 0));
            on(x, 0).demands(0, 1, -6);
            comesTo(x, 0, 0, 0);
            due(-1, () -> x.check(0));
            due(0, () -> x.ways(0));
            due(NO_ELEMENT, () -> x.most(0, 0, 1, 0));
            due(NO_ELEMENT, () -> x.most(0, 1, 0, 0));
        });
        sentence("where no numbers are left: demands that exclude each other only all together", x -> {
            on(x, 0).demands(1, 0, 5).demands(2, 1, -3).demands(0, 2, -2);
            due(1, () -> x.ways(0));
            on(x, 0).demands(0, 2, -3);
            due(0, () -> x.ways(0));
            on(x, 1).demands(2, 2, -1);
            due(0, () -> x.comes(1, 0));
        });
        sentence("where no numbers are left: a way comes to such a CLAIM, and not behind it", x -> {
            on(x, 0).demands(1, 0, 5).claim(0, 1, -5).claim(0, 1, -6).claim(0, 0, -1);
            comesTo(x, 0, 1, 1, 0, 0);
            due(0, () -> x.check(0));
            due(0, () -> x.ways(0));
            on(x, 0).demands(0, 1, -5);
            due(1, () -> x.check(0));
        });
        sentence("where no numbers are left: a way comes to such a CALL, and not behind it", x -> {
            on(x, 1).promises(3, 1, -1).promises(2, 3, 0);
            on(x, 0).demands(1, 2, 1).call(4, 1, 1, 2).promises(3, 3, -1);
            comesTo(x, 0, 1, 1);
            due(0, () -> x.most(0, 1, 4, 2));
            due(1, () -> x.check(0));
            on(x, 0).demands(1, 2, 0);
            comesTo(x, 0, 1, 0);
            due(-1, () -> x.check(0));
            due(0, () -> x.ways(0));
            due(NO_ELEMENT, () -> x.most(0, 1, 4, 2));
        });
        sentence("where no numbers are left: one side of an IF, or the other", x -> {
            on(x, 0).demands(1, 0, 5).when(1, 0, 5).any(4).otherwise().claim(0, 0, -1).end();
            comesTo(x, 0, 1, 1, 1, 0, 1, 1);
            due(-1, () -> x.check(0));
            due(1, () -> x.ways(0));
            on(x, 1).demands(0, 1, -6).when(1, 0, 5).claim(0, 0, -1).otherwise().any(4).end();
            comesTo(x, 1, 1, 0, 0, 1, 1, 1);
            due(-1, () -> x.check(1));
            due(1, () -> x.ways(1));
            on(x, 2).demands(1, 0, 6).demands(0, 1, -5).when(1, 0, 5).any(4).otherwise().any(4).end();
            comesTo(x, 2, 1, 1, 1, 1, 1, 1);
            due(2, () -> x.ways(2));
        });
        sentence("A way is FEASIBLE as far as there are numbers: it is not counted where it ends before its end", x -> {
            on(x, 0).when(1, 0, 0).claim(0, 1, -1).end().any(4);
            due(1, () -> x.ways(0));
            comesTo(x, 0, 1, 1, 1, 1, 1);
            due(ARITHMETIC, () -> x.most(0, 2, 1, 0));
            due(-1, () -> x.most(0, 2, 0, 1));
        });
        sentence("numbers that no name bears any more still have to be there", x -> {
            on(x, 0).any(4).claim(4, 1, 0).claim(2, 4, 0).any(4).when(1, 2, -1).any(5).end();
            comesTo(x, 0, 1, 1, 1, 1, 1, 0, 1, 1);
            due(1, () -> x.ways(0));
        });
    }

    private static void shown() {
        sentence("To be SHOWN, where a feasible way comes there: a CLAIM to which none comes is not told", x -> {
            on(x, 0).returns(0, 0).claim(0, 0, -1);
            due(-1, () -> x.check(0));
            on(x, 1).demands(1, 0, 0).when(0, 1, -1).claim(0, 0, -1);
            due(-1, () -> x.check(1));
        });
        sentence("To be SHOWN: the relation of a CLAIM, on every way that comes there", x -> {
            on(x, 0).when(1, 0, 0).give(4, 0, 1).otherwise().give(4, 0, 2).end().claim(4, 0, 2).claim(4, 0, 1);
            due(6, () -> x.check(0));
            on(x, 1).when(1, 0, 0).give(4, 0, 2).otherwise().give(4, 0, 1).end().claim(4, 0, 2).claim(4, 0, 1);
            due(6, () -> x.check(1));
        });
        sentence("To be SHOWN: the demands of the function called, with the numbers b and c, at the CALL", x -> {
            on(x, 1).demands(1, 2, 3);
            on(x, 0).give(4, 1, 3).call(5, 1, 4, 1).call(5, 1, 1, 4);
            due(-1, () -> x.check(0));
            on(x, 0).give(4, 1, 4).call(5, 1, 4, 1);
            due(4, () -> x.check(0));
        });
        sentence("To be SHOWN: the demands before the CALL, without help from its promises", x -> {
            on(x, 1).demands(1, 0, 5).promises(1, 0, 5);
            on(x, 0).call(4, 1, 1, 2).call(5, 1, 1, 2);
            due(0, () -> x.check(0));
            on(x, 0).demands(1, 0, 5);
            due(-1, () -> x.check(0));
        });
        sentence("To be SHOWN: the promises at a RETURN, with what it returns as the result", x -> {
            on(x, 0).promises(3, 1, 1000).promises(1, 3, -1000).returns(1, 1000);
            due(-1, () -> x.check(0));
            on(x, 1).promises(3, 1, -1000).promises(1, 3, 1000).returns(1, -1000);
            due(-1, () -> x.check(1));
            on(x, 2).promises(3, 1, 998).returns(1, 999);
            due(0, () -> x.check(2));
            on(x, 3).promises(1, 3, -1000).any(4).returns(1, 999);
            due(1, () -> x.check(3));
        });
        sentence("To be SHOWN: promises of the parameters alone, at every RETURN", x -> {
            on(x, 0).promises(1, 2, 0).when(1, 2, 0).returns(0, 0).end();
            due(3, () -> x.check(0));
            on(x, 0).demands(1, 2, 0);
            due(-1, () -> x.check(0));
        });
        sentence("also the one behind the last statement, whose place is that behind it", x -> {
            on(x, 0).promises(3, 0, -1);
            due(0, () -> x.check(0));
            on(x, 0).any(4);
            due(1, () -> x.check(0));
            on(x, 0).filledTo(16);
            due(16, () -> x.check(0));
        });
        sentence("It is shown if it holds for all numbers for which all that is KNOWN there holds", x -> {
            on(x, 0).demands(1, 2, 3).demands(2, 0, 4).claim(1, 0, 7).claim(1, 0, 6);
            due(1, () -> x.check(0));
            on(x, 1).any(4).any(5).any(6).claim(4, 5, 1).claim(5, 6, 2).claim(6, 1, 3).claim(1, 0, 4)
                    .claim(4, 0, 10).claim(4, 0, 9);
            due(3, () -> x.check(1));
            due(10, () -> x.most(1, 8, 4, 0));
            due(9, () -> x.most(1, 9, 4, 0));
        });
        sentence("A function is SOUND if all is shown on all its ways: one of sixteen is enough to break it", x -> {
            for (int f : within(0, 2)) {
                Lines lines = on(x, f).any(5).any(6).give(4, 0, 0);
                for (int name : new int[] {1, 2, 5, 6}) {
                    lines.when(name, 0, 0).give(4, 4, 1).end();
                }
                due(16, () -> x.ways(f));
            }
            // Only where all four are at most 0 has 4 become 4, only where none is has it stayed 0.
            on(x, 0).claim(4, 0, 3);
            due(15, () -> x.check(0));
            on(x, 1).claim(0, 4, -1);
            due(15, () -> x.check(1));
            on(x, 2).claim(4, 0, 4);
            due(-1, () -> x.check(2));
        });
        sentence("A function is SOUND where it has nothing to show: empty, or without a feasible way", x -> {
            due(-1, () -> x.check(0));
            on(x, 1).demands(0, 0, -1).promises(0, 0, -1).claim(0, 0, -1);
            due(-1, () -> x.check(1));
        });
        sentence("What functions are called is taken at its word, whatever they are: unsound ones", x -> {
            on(x, 1).promises(3, 0, -5).returns(0, 7);
            due(0, () -> x.check(1));
            on(x, 0).promises(3, 0, -5).call(4, 1, 1, 2).returns(4, 0);
            due(-1, () -> x.check(0));
            due(-5, () -> x.most(0, 1, 4, 0));
        });
        sentence("What functions are called is taken at its word: itself, and one that calls back", x -> {
            on(x, 0).promises(3, 1, 0).call(4, 0, 1, 2).returns(4, 0);
            due(-1, () -> x.check(0));
            on(x, 1).promises(3, 1, -1).call(4, 2, 1, 2).returns(4, 0);
            on(x, 2).promises(3, 1, -1).call(4, 1, 1, 2).returns(4, 0);
            due(-1, () -> x.check(1));
            due(-1, () -> x.check(2));
            due(1, () -> x.ways(1));
        });
        sentence("What functions are called is taken at its word: one whose promises no number keeps", x -> {
            on(x, 1).promises(3, 0, 0).promises(0, 3, -1);
            on(x, 0).call(4, 1, 1, 2).claim(0, 0, -1);
            due(-1, () -> x.check(0));
            due(0, () -> x.ways(0));
            comesTo(x, 0, 1, 0, 0);
        });
        sentence("What functions are called is taken at its word: one whose demands no numbers meet", x -> {
            on(x, 1).demands(0, 0, -1).promises(3, 0, 5);
            on(x, 0).call(4, 1, 1, 2).claim(4, 0, 5);
            due(0, () -> x.check(0));
            due(1, () -> x.ways(0));
            due(5, () -> x.most(0, 1, 4, 0));
        });
    }

    public static void main(String[] args) {
        limitOfCalls();
        numbers();
        names();
        relations();
        sizes();
        kindsThatGive();
        sides();
        lackingEnds();
        behindTheLast();
        ways();
        known();
        feasible();
        shown();
        endOfTests();
    }
}
