/**
 * Each sentence of the document that begins with the name of an exception: the first inputs that
 * are refused, that a call refused changes nothing, and which exception is told where two are due.
 */
public final class RefusalsTest extends Sentences {
    private static final Setting EMPTY = x -> { };

    /** 0: an IF open behind its ELSE. 1: an IF open before one. 2: six IFs and room. 3: no feasible way. */
    private static final Setting HALF = x -> {
        on(x, 0).demands(1, 0, 50).promises(3, 0, 100)
                .any(4).when(4, 1, 0).give(5, 4, 3).otherwise().give(6, 2, -2);
        on(x, 1).call(7, 0, 1, 2).when(7, 0, 10).claim(7, 0, 10);
        Lines asks = on(x, 2);
        for (int i = 0; i < 6; i++) {
            asks.when(1, 2, i).end();
        }
        on(x, 3).demands(0, 0, -1).any(4);
    };

    /** 0: an IF open before its ELSE. 1: an IF open behind one. 2: none open. 3: six open. All have 4 and 5. */
    private static final Setting FULL = x -> {
        bound(x, 0).when(1, 0, 0).filledTo(16);
        bound(x, 1).when(1, 0, 0).otherwise().filledTo(16);
        bound(x, 2).call(5, 3, 2, 1).filledTo(16);
        Lines asks = bound(x, 3);
        for (int i = 0; i < 6; i++) {
            asks.when(1, 0, -i);
        }
        asks.filledTo(16);
    };

    private static final Setting[] ALL = {EMPTY, HALF, FULL};

    /** A function with four demands and four promises that gives 4 and 5. */
    private static Lines bound(LiquidChecker x, int f) {
        Lines lines = on(x, f);
        for (int i = 0; i < 4; i++) {
            lines.demands(1, 2, 9 - f - i).promises(3, 0, 9 - f + i);
        }
        return lines.give(4, 1, f).any(5);
    }

    private static void refusedInAll(Class<?> want, CallOn call) {
        for (Setting setting : ALL) {
            refused(want, setting, call);
        }
    }

    private static void refineRefuses() {
        sentence("refine: IllegalArgumentException: function not 0 .. 3", unused -> {
            for (int bad : outside(0, 3)) {
                refusedInAll(ARGUMENT, x -> x.refine(bad, DEMAND, 1, 0, 0));
                refusedInAll(ARGUMENT, x -> x.refine(bad, PROMISE, 1, 0, 0));
            }
        });
        sentence("refine: IllegalArgumentException: another kind", unused -> {
            for (int bad : outside(0, 1)) {
                refusedInAll(ARGUMENT, x -> x.refine(0, bad, 1, 0, 0));
            }
        });
        sentence("refine: IllegalArgumentException: names not 0 .. 2 (0)", unused -> {
            for (int bad : outside(0, 2)) {
                refusedInAll(ARGUMENT, x -> x.refine(0, DEMAND, bad, 0, 0));
                refusedInAll(ARGUMENT, x -> x.refine(0, DEMAND, 0, bad, 0));
            }
        });
        sentence("refine: IllegalArgumentException: names not 0 .. 3 (1)", unused -> {
            for (int bad : outside(0, 3)) {
                refusedInAll(ARGUMENT, x -> x.refine(0, PROMISE, bad, 0, 0));
                refusedInAll(ARGUMENT, x -> x.refine(0, PROMISE, 0, bad, 0));
            }
        });
        sentence("refine: IllegalArgumentException: k out of range", unused -> {
            for (int bad : outside(-1000, 1000)) {
                refusedInAll(ARGUMENT, x -> x.refine(0, DEMAND, 1, 0, bad));
                refusedInAll(ARGUMENT, x -> x.refine(0, PROMISE, 1, 0, bad));
            }
        });
        sentence("refine: IllegalStateException: it has 4", unused -> {
            for (int f : within(0, 3)) {
                refused(STATE, FULL, x -> x.refine(f, DEMAND, 1, 2, -9));
                refused(STATE, FULL, x -> x.refine(f, PROMISE, 3, 0, -9));
            }
        });
        sentence("refine, in the order of testing: IllegalArgumentException where it has 4 too", unused -> {
            refused(ARGUMENT, FULL, x -> x.refine(0, 2, 1, 0, 0));
            refused(ARGUMENT, FULL, x -> x.refine(0, DEMAND, 3, 0, 0));
            refused(ARGUMENT, FULL, x -> x.refine(0, DEMAND, 0, 3, 0));
            refused(ARGUMENT, FULL, x -> x.refine(0, PROMISE, 4, 0, 0));
            refused(ARGUMENT, FULL, x -> x.refine(0, PROMISE, 0, -1, 0));
            refused(ARGUMENT, FULL, x -> x.refine(0, DEMAND, 1, 0, 1001));
            refused(ARGUMENT, FULL, x -> x.refine(0, PROMISE, 1, 0, -1001));
        });
    }

    private static void statementRefusesArguments() {
        sentence("statement: IllegalArgumentException: function not 0 .. 3", unused -> {
            for (int bad : outside(0, 3)) {
                for (int kind : within(GIVE, ANY)) {
                    refused(ARGUMENT, HALF, x -> x.statement(bad, kind, 4, 1, 1, 0));
                }
            }
        });
        sentence("statement: IllegalArgumentException: kind not 0 .. 7", unused -> {
            for (int bad : outside(0, 7)) {
                refusedInAll(ARGUMENT, x -> x.statement(0, bad, 4, 1, 1, 0));
            }
        });
        sentence("statement: IllegalArgumentException: a new name not 4 .. 11", unused -> {
            for (int kind : new int[] {GIVE, CALL, ANY}) {
                for (int bad : outside(4, 11)) {
                    refusedInAll(ARGUMENT, x -> x.statement(0, kind, bad, 1, 1, 0));
                }
                for (int bad : within(0, 2)) {
                    refused(ARGUMENT, HALF, x -> x.statement(0, kind, bad, 1, 1, 0));
                }
            }
        });
        sentence("statement: IllegalArgumentException: a name that is used not 0 .. 2 or 4 .. 11: b for 0, 1 and 6", unused -> {
            for (int bad : unusableNames()) {
                refusedInAll(ARGUMENT, x -> x.statement(0, GIVE, 4, bad, 1, 0));
                refusedInAll(ARGUMENT, x -> x.statement(0, CALL, 4, bad, 1, 0));
                refusedInAll(ARGUMENT, x -> x.statement(0, RETURN, 4, bad, 1, 0));
            }
        });
        sentence("statement: IllegalArgumentException: a name that is used not 0 .. 2 or 4 .. 11: c for 1", unused -> {
            for (int bad : unusableNames()) {
                refusedInAll(ARGUMENT, x -> x.statement(0, CALL, 4, 1, bad, 0));
            }
        });
        sentence("statement: IllegalArgumentException: a name that is used not 0 .. 2 or 4 .. 11: a and b for 2 and 5", unused -> {
            for (int bad : unusableNames()) {
                for (int kind : new int[] {IF, CLAIM}) {
                    refusedInAll(ARGUMENT, x -> x.statement(0, kind, bad, 1, 1, 0));
                    refusedInAll(ARGUMENT, x -> x.statement(0, kind, 1, bad, 1, 0));
                }
            }
        });
        sentence("statement: IllegalArgumentException: k out of range (0, 2, 5, 6)", unused -> {
            for (int kind : new int[] {GIVE, IF, CLAIM, RETURN}) {
                for (int bad : outside(-1000, 1000)) {
                    refusedInAll(ARGUMENT, x -> x.statement(0, kind, 4, 1, 1, bad));
                }
            }
        });
        sentence("statement: IllegalArgumentException: k no function (1)", unused -> {
            for (int bad : new int[] {-1, 4, -1000, 1000, Integer.MIN_VALUE, Integer.MAX_VALUE}) {
                refusedInAll(ARGUMENT, x -> x.statement(0, CALL, 4, 1, 1, bad));
            }
        });
    }

    private static void statementRefusesNames() {
        sentence("statement: UnsupportedOperationException: a name that is used was not given by any statement before", unused -> {
            for (int name : within(4, 11)) {
                refused(UNSUPPORTED, EMPTY, x -> x.statement(0, GIVE, 4, name, 1, 0));
                refused(UNSUPPORTED, EMPTY, x -> x.statement(0, CALL, 4, name, 1, 0));
                refused(UNSUPPORTED, EMPTY, x -> x.statement(0, CALL, 4, 1, name, 0));
                refused(UNSUPPORTED, EMPTY, x -> x.statement(0, IF, name, 1, 1, 0));
                refused(UNSUPPORTED, EMPTY, x -> x.statement(0, IF, 1, name, 1, 0));
                refused(UNSUPPORTED, EMPTY, x -> x.statement(0, CLAIM, name, 1, 1, 0));
                refused(UNSUPPORTED, EMPTY, x -> x.statement(0, CLAIM, 1, name, 1, 0));
                refused(UNSUPPORTED, EMPTY, x -> x.statement(0, RETURN, 1, name, 1, 0));
            }
        });
        sentence("statement: UnsupportedOperationException: one of two names that are used was not given", unused -> {
            for (int kind : new int[] {IF, CLAIM}) {
                refused(UNSUPPORTED, HALF, x -> x.statement(0, kind, 4, 7, 1, 0));
                refused(UNSUPPORTED, HALF, x -> x.statement(0, kind, 7, 4, 1, 0));
            }
            refused(UNSUPPORTED, HALF, x -> x.statement(0, CALL, 4, 4, 7, 0));
            refused(UNSUPPORTED, HALF, x -> x.statement(0, CALL, 4, 7, 4, 0));
        });
        sentence("statement: UnsupportedOperationException: the very statement that gives a name does not give it before", unused -> {
            refused(UNSUPPORTED, HALF, x -> x.statement(0, GIVE, 9, 9, 1, 0));
            refused(UNSUPPORTED, HALF, x -> x.statement(0, CALL, 9, 9, 1, 0));
            refused(UNSUPPORTED, HALF, x -> x.statement(0, CALL, 9, 1, 9, 0));
        });
        sentence("statement: UnsupportedOperationException: another function's statements do not give the name", unused -> {
            refused(UNSUPPORTED, HALF, x -> x.statement(0, RETURN, 0, 7, 0, 0));
            refused(UNSUPPORTED, HALF, x -> x.statement(1, RETURN, 0, 4, 0, 0));
            refused(UNSUPPORTED, HALF, x -> x.statement(2, RETURN, 0, 4, 0, 0));
        });
        sentence("statement: a refused statement does not give its name", x -> {
            due(ARGUMENT, () -> x.statement(0, GIVE, 4, 1, 0, 1001));
            due(ARGUMENT, () -> x.statement(0, CALL, 4, 1, 1, 4));
            due(UNSUPPORTED, () -> x.statement(0, GIVE, 4, 5, 0, 0));
            due(UNSUPPORTED, () -> x.statement(0, RETURN, 0, 4, 0, 0));
            on(x, 0).filledTo(16);
            due(STATE, () -> x.statement(0, ANY, 4, 0, 0, 0));
            due(UNSUPPORTED, () -> x.statement(0, RETURN, 0, 4, 0, 0));
        });
    }

    private static void statementRefusesSides() {
        sentence("statement: UnsupportedOperationException: an ELSE or END without an IF that is open: none at all", unused -> {
            refused(UNSUPPORTED, EMPTY, x -> x.statement(0, ELSE, 0, 0, 0, 0));
            refused(UNSUPPORTED, EMPTY, x -> x.statement(0, END, 0, 0, 0, 0));
        });
        sentence("statement: UnsupportedOperationException: an ELSE or END without an IF that is open: all have their END", unused -> {
            refused(UNSUPPORTED, HALF, x -> x.statement(2, ELSE, 0, 0, 0, 0));
            refused(UNSUPPORTED, HALF, x -> x.statement(2, END, 0, 0, 0, 0));
            Setting elseToo = x -> on(x, 1).when(1, 0, 0).when(2, 0, 0).otherwise().end().otherwise().end();
            refused(UNSUPPORTED, elseToo, x -> x.statement(1, ELSE, 0, 0, 0, 0));
            refused(UNSUPPORTED, elseToo, x -> x.statement(1, END, 0, 0, 0, 0));
        });
        sentence("statement: UnsupportedOperationException: an ELSE or END where only another function has an open IF", unused -> {
            Setting other = x -> on(x, 1).when(1, 0, 0);
            refused(UNSUPPORTED, other, x -> x.statement(0, ELSE, 0, 0, 0, 0));
            refused(UNSUPPORTED, other, x -> x.statement(2, END, 0, 0, 0, 0));
        });
        sentence("statement: UnsupportedOperationException: an ELSE behind its ELSE", unused -> {
            refused(UNSUPPORTED, HALF, x -> x.statement(0, ELSE, 0, 0, 0, 0));
            refused(UNSUPPORTED, x -> on(x, 0).when(1, 0, 0).otherwise(), x -> x.statement(0, ELSE, 0, 0, 0, 0));
            // The ELSE of an IF inside is not the outer one's.
            Setting inside = x -> on(x, 0).when(1, 0, 0).otherwise().when(2, 0, 0).otherwise().end();
            refused(UNSUPPORTED, inside, x -> x.statement(0, ELSE, 0, 0, 0, 0));
        });
        sentence("statement: an ELSE that is refused leaves the END to its IF", x -> {
            on(x, 0).when(1, 0, 0).otherwise();
            due(UNSUPPORTED, () -> x.statement(0, ELSE, 0, 0, 0, 0));
            on(x, 0).any(4).end();
            due(UNSUPPORTED, () -> x.statement(0, END, 0, 0, 0, 0));
            on(x, 0).demands(1, 0, 0);
            comesTo(x, 0, 1, 1, 0, 1, 1);
        });
    }

    private static void statementRefusesMore() {
        sentence("statement: IllegalStateException: it has 16", unused -> {
            for (int f : within(0, 3)) {
                for (int kind : new int[] {GIVE, CALL, ANY}) {
                    refused(STATE, FULL, x -> x.statement(f, kind, 11, 1, 1, 0));
                }
                refused(STATE, FULL, x -> x.statement(f, CLAIM, 4, 1, 0, -1000));
                refused(STATE, FULL, x -> x.statement(f, RETURN, 0, 4, 0, 1000));
            }
            for (int f : within(0, 2)) {
                refused(STATE, FULL, x -> x.statement(f, IF, 4, 1, 1, 0));
            }
            for (int f : new int[] {0, 1, 3}) {
                refused(STATE, FULL, x -> x.statement(f, END, 0, 0, 0, 0));
            }
            refused(STATE, FULL, x -> x.statement(0, ELSE, 0, 0, 0, 0));
            refused(STATE, FULL, x -> x.statement(3, ELSE, 0, 0, 0, 0));
        });
        sentence("statement: IllegalStateException: an IF has 6 others before it: all with their END", unused -> {
            refused(STATE, HALF, x -> x.statement(2, IF, 1, 2, 0, 0));
        });
        sentence("statement: IllegalStateException: an IF has 6 others before it: all open, or behind their ELSE", unused -> {
            Setting open = x -> on(x, 0).when(1, 0, 0).when(1, 0, 0).when(1, 0, 0).when(1, 0, 0).when(1, 0, 0).when(1, 0, 0);
            refused(STATE, open, x -> x.statement(0, IF, 1, 2, 0, 0));
            Setting mixed = x -> on(x, 0).when(1, 0, 0).otherwise().when(1, 0, 0).when(1, 0, 0).end().when(1, 0, 0)
                    .otherwise().when(2, 0, 0).end().when(2, 1, 0);
            refused(STATE, mixed, x -> x.statement(0, IF, 1, 2, 0, 0));
        });
        sentence("statement: IllegalStateException: an IF that has 6 others before it and 16 statements", unused -> {
            refused(STATE, FULL, x -> x.statement(3, IF, 1, 2, 0, 0));
        });
    }

    private static void statementOrder() {
        sentence("statement, in the order of testing: IllegalArgumentException before a name that was not given", unused -> {
            refused(ARGUMENT, HALF, x -> x.statement(4, RETURN, 0, 11, 0, 0));
            refused(ARGUMENT, HALF, x -> x.statement(0, 8, 11, 11, 11, 0));
            refused(ARGUMENT, HALF, x -> x.statement(0, GIVE, 3, 11, 0, 0));
            refused(ARGUMENT, HALF, x -> x.statement(0, GIVE, 4, 11, 0, 1001));
            refused(ARGUMENT, HALF, x -> x.statement(0, CALL, 12, 11, 1, 0));
            refused(ARGUMENT, HALF, x -> x.statement(0, CALL, 4, 11, 3, 0));
            refused(ARGUMENT, HALF, x -> x.statement(0, CALL, 4, 3, 11, 0));
            refused(ARGUMENT, HALF, x -> x.statement(0, CALL, 4, 11, 11, 4));
            for (int kind : new int[] {IF, CLAIM}) {
                refused(ARGUMENT, HALF, x -> x.statement(0, kind, 11, 3, 0, 0));
                refused(ARGUMENT, HALF, x -> x.statement(0, kind, 12, 11, 0, 0));
                refused(ARGUMENT, HALF, x -> x.statement(0, kind, 11, 1, 0, -1001));
            }
            refused(ARGUMENT, HALF, x -> x.statement(0, RETURN, 0, 11, 0, 1001));
        });
        sentence("statement, in the order of testing: IllegalArgumentException before an ELSE or END out of place", unused -> {
            refused(ARGUMENT, EMPTY, x -> x.statement(-1, ELSE, 0, 0, 0, 0));
            refused(ARGUMENT, EMPTY, x -> x.statement(4, END, 0, 0, 0, 0));
        });
        sentence("statement, in the order of testing: IllegalArgumentException where it has 16 too", unused -> {
            refused(ARGUMENT, FULL, x -> x.statement(0, GIVE, 3, 1, 0, 0));
            refused(ARGUMENT, FULL, x -> x.statement(0, CALL, 4, 1, 2, -1));
            refused(ARGUMENT, FULL, x -> x.statement(0, IF, 1, 3, 0, 0));
            refused(ARGUMENT, FULL, x -> x.statement(0, CLAIM, 1, 2, 0, 1001));
            refused(ARGUMENT, FULL, x -> x.statement(0, RETURN, 0, 12, 0, 0));
            refused(ARGUMENT, FULL, x -> x.statement(0, ANY, 12, 0, 0, 0));
        });
        sentence("statement, in the order of testing: IllegalArgumentException where an IF has 6 others before it too", unused -> {
            refused(ARGUMENT, HALF, x -> x.statement(2, IF, 3, 1, 0, 0));
            refused(ARGUMENT, HALF, x -> x.statement(2, IF, 1, 2, 0, 1001));
        });
        sentence("statement, in the order of testing: UnsupportedOperationException where it has 16 too", unused -> {
            refused(UNSUPPORTED, FULL, x -> x.statement(0, GIVE, 4, 11, 0, 0));
            refused(UNSUPPORTED, FULL, x -> x.statement(0, CALL, 4, 1, 11, 0));
            refused(UNSUPPORTED, FULL, x -> x.statement(0, IF, 11, 1, 0, 0));
            refused(UNSUPPORTED, FULL, x -> x.statement(0, CLAIM, 1, 11, 0, 0));
            refused(UNSUPPORTED, FULL, x -> x.statement(0, RETURN, 0, 11, 0, 0));
            refused(UNSUPPORTED, FULL, x -> x.statement(1, ELSE, 0, 0, 0, 0));
            refused(UNSUPPORTED, FULL, x -> x.statement(2, ELSE, 0, 0, 0, 0));
            refused(UNSUPPORTED, FULL, x -> x.statement(2, END, 0, 0, 0, 0));
        });
        sentence("statement, in the order of testing: UnsupportedOperationException where an IF has 6 others before it too", unused -> {
            refused(UNSUPPORTED, HALF, x -> x.statement(2, IF, 4, 1, 0, 0));
            refused(UNSUPPORTED, HALF, x -> x.statement(2, IF, 1, 4, 0, 0));
        });
        sentence("statement, in the order of testing: IllegalArgumentException where all three are due", unused -> {
            refused(ARGUMENT, FULL, x -> x.statement(3, IF, 11, 3, 0, 0));
            refused(ARGUMENT, FULL, x -> x.statement(0, GIVE, 4, 11, 0, -1001));
        });
    }

    private static void questionsRefuse() {
        sentence("clear: IllegalArgumentException: function not 0 .. 3", unused -> {
            for (int bad : outside(0, 3)) {
                refusedInAll(ARGUMENT, x -> x.clear(bad));
            }
        });
        sentence("check: IllegalArgumentException: function not 0 .. 3", unused -> {
            for (int bad : outside(0, 3)) {
                refusedInAll(ARGUMENT, x -> x.check(bad));
            }
        });
        sentence("ways: IllegalArgumentException: function not 0 .. 3", unused -> {
            for (int bad : outside(0, 3)) {
                refusedInAll(ARGUMENT, x -> x.ways(bad));
            }
        });
        sentence("comes: IllegalArgumentException: function not 0 .. 3", unused -> {
            for (int bad : outside(0, 3)) {
                refusedInAll(ARGUMENT, x -> x.comes(bad, 0));
            }
        });
        sentence("comes: IllegalArgumentException: no such place", unused -> {
            for (int size : new int[] {0, 1, 15, 16}) {
                Setting sized = x -> on(x, 1).filledTo(size);
                for (int bad : outside(0, size)) {
                    refused(ARGUMENT, sized, x -> x.comes(1, bad));
                }
            }
            // A place of another function is none of this one.
            refused(ARGUMENT, x -> on(x, 1).filledTo(16), x -> x.comes(0, 1));
        });
        sentence("follows: IllegalArgumentException: a function not 0 .. 3", unused -> {
            for (int bad : outside(0, 3)) {
                refusedInAll(ARGUMENT, x -> x.follows(bad, 0));
                refusedInAll(ARGUMENT, x -> x.follows(0, bad));
                refusedInAll(ARGUMENT, x -> x.follows(bad, bad));
            }
        });
        sentence("count: IllegalArgumentException: function not 0 .. 3", unused -> {
            for (int bad : outside(0, 3)) {
                refusedInAll(ARGUMENT, x -> x.count(bad, 0));
            }
        });
        sentence("count: IllegalArgumentException: another number", unused -> {
            for (int bad : outside(0, 3)) {
                refusedInAll(ARGUMENT, x -> x.count(0, bad));
            }
        });
    }

    private static void mostRefuses() {
        sentence("most: IllegalArgumentException: function not 0 .. 3", unused -> {
            for (int bad : outside(0, 3)) {
                refusedInAll(ARGUMENT, x -> x.most(bad, 0, 1, 1));
            }
        });
        sentence("most: IllegalArgumentException: no such place", unused -> {
            for (int size : new int[] {0, 1, 15, 16}) {
                Setting sized = x -> on(x, 1).filledTo(size);
                for (int bad : outside(0, size)) {
                    refused(ARGUMENT, sized, x -> x.most(1, bad, 1, 1));
                }
            }
        });
        sentence("most: IllegalArgumentException: another name", unused -> {
            for (int bad : unusableNames()) {
                refusedInAll(ARGUMENT, x -> x.most(0, 0, bad, 1));
                refusedInAll(ARGUMENT, x -> x.most(0, 0, 1, bad));
                refusedInAll(ARGUMENT, x -> x.most(0, 0, bad, bad));
            }
        });
        sentence("most: NoSuchElementException: no feasible way comes there", unused -> {
            refused(NO_ELEMENT, HALF, x -> x.most(3, 0, 1, 1));
            refused(NO_ELEMENT, HALF, x -> x.most(3, 1, 0, 0));
            Setting ended = x -> on(x, 0).returns(0, 0).any(4);
            refused(NO_ELEMENT, ended, x -> x.most(0, 1, 4, 4));
            refused(NO_ELEMENT, ended, x -> x.most(0, 2, 4, 4));
            Setting claimed = x -> on(x, 0).claim(0, 0, -1).any(4);
            refused(NO_ELEMENT, claimed, x -> x.most(0, 1, 0, 0));
            Setting asked = x -> on(x, 0).demands(1, 0, 0).when(0, 1, -1).any(4).otherwise().any(5);
            refused(NO_ELEMENT, asked, x -> x.most(0, 1, 0, 0));
            refused(NO_ELEMENT, asked, x -> x.most(0, 2, 0, 0));
        });
        sentence("most: ArithmeticException: it can be as great as one likes", unused -> {
            refused(ARITHMETIC, EMPTY, x -> x.most(0, 0, 1, 0));
            refused(ARITHMETIC, EMPTY, x -> x.most(0, 0, 4, 11));
            refused(ARITHMETIC, HALF, x -> x.most(0, 0, 0, 1));
            refused(ARITHMETIC, HALF, x -> x.most(0, 4, 6, 2));
            // On one way of many it is enough, whichever that is.
            Setting first = x -> on(x, 0).give(4, 0, 0).when(1, 0, 0).any(4).end();
            refused(ARITHMETIC, first, x -> x.most(0, 3, 4, 0));
            Setting other = x -> on(x, 0).give(4, 0, 0).when(1, 0, 0).otherwise().any(4).end();
            refused(ARITHMETIC, other, x -> x.most(0, 4, 4, 0));
        });
        sentence("most, in the order of testing: IllegalArgumentException before the two others", unused -> {
            refused(ARGUMENT, HALF, x -> x.most(3, 2, 1, 0));
            refused(ARGUMENT, HALF, x -> x.most(3, -1, 1, 0));
            refused(ARGUMENT, HALF, x -> x.most(3, 0, 3, 0));
            refused(ARGUMENT, HALF, x -> x.most(3, 0, 0, 12));
            refused(ARGUMENT, EMPTY, x -> x.most(0, 0, 3, 4));
            refused(ARGUMENT, EMPTY, x -> x.most(0, 0, 4, 3));
            refused(ARGUMENT, EMPTY, x -> x.most(0, 1, 4, 0));
        });
        sentence("most, in the order of testing: NoSuchElementException before ArithmeticException", unused -> {
            refused(NO_ELEMENT, HALF, x -> x.most(3, 0, 1, 0));
            refused(NO_ELEMENT, HALF, x -> x.most(3, 1, 4, 11));
            refused(NO_ELEMENT, x -> on(x, 0).returns(0, 0), x -> x.most(0, 1, 4, 0));
        });
    }

    private static void questionsChangeNothing() {
        sentence("a question that is answered changes nothing either", unused -> {
            for (Setting setting : ALL) {
                for (int f : within(0, 3)) {
                    changesNothing(setting, x -> x.check(f));
                    changesNothing(setting, x -> x.ways(f));
                    changesNothing(setting, x -> x.comes(f, 0));
                    changesNothing(setting, x -> x.most(f, 0, 1, 1));
                    changesNothing(setting, x -> x.follows(f, 3 - f));
                    changesNothing(setting, x -> x.count(f, f));
                }
            }
        });
        sentence("a call that throws changes nothing: many of them, one behind the other", unused -> {
            changesNothing(FULL, x -> {
                for (int i = 0; i < 40; i++) {
                    due(STATE, () -> x.statement(3, IF, 1, 0, 0, 0));
                    due(STATE, () -> x.refine(1, DEMAND, 1, 0, -1000));
                    due(UNSUPPORTED, () -> x.statement(1, ELSE, 0, 0, 0, 0));
                    due(ARGUMENT, () -> x.clear(4));
                }
                return 0;
            });
        });
    }

    public static void main(String[] args) {
        refineRefuses();
        statementRefusesArguments();
        statementRefusesNames();
        statementRefusesSides();
        statementRefusesMore();
        statementOrder();
        questionsRefuse();
        mostRefuses();
        questionsChangeNothing();
        endOfTests();
    }
}
