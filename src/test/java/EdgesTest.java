/**
 * Each sentence of promises 1 to 10 that says what a call answers: the last inputs that are
 * allowed at both ends, empty and full.
 */
public final class EdgesTest extends Sentences {
    private static void newObject() {
        sentence("LiquidChecker(): makes an object in the state that the terms give: all four functions are empty", x -> {
            for (int f : within(0, 3)) {
                for (int what : within(0, 3)) {
                    due(0, () -> x.count(f, what));
                }
                due(-1, () -> x.check(f));
                due(1, () -> x.ways(f));
                comesTo(x, f, 1);
                for (int from : within(0, 3)) {
                    due(1, () -> x.follows(f, from));
                }
                due(0, () -> x.clear(f));
            }
        });
        sentence("LiquidChecker(): nothing is known of any name, but of 0 and of each with itself", x -> {
            int[] names = {0, 1, 2, 4, 5, 6, 7, 8, 9, 10, 11};
            for (int a : names) {
                for (int b : names) {
                    due(a == b ? (Object) 0 : ARITHMETIC, () -> x.most(3, 0, a, b));
                }
            }
        });
        sentence("LiquidChecker(): no name has been given and no IF is open", x -> {
            for (int name : within(4, 11)) {
                due(UNSUPPORTED, () -> x.statement(2, RETURN, 0, name, 0, 0));
            }
            due(UNSUPPORTED, () -> x.statement(2, ELSE, 0, 0, 0, 0));
            due(UNSUPPORTED, () -> x.statement(2, END, 0, 0, 0, 0));
        });
        sentence("LiquidChecker(): what one object has, another has not", x -> {
            LiquidChecker y = new LiquidChecker();
            on(x, 0).demands(1, 0, 0).promises(3, 0, -1).any(4).when(4, 0, 0);
            for (int what : within(0, 3)) {
                due(0, () -> y.count(0, what));
            }
            due(-1, () -> y.check(0));
            due(UNSUPPORTED, () -> y.statement(0, RETURN, 0, 4, 0, 0));
            on(y, 0).demands(1, 0, 7);
            due(0, () -> x.most(0, 0, 1, 0));
            due(7, () -> y.most(0, 0, 1, 0));
            due(2, () -> x.check(0));
        });
    }

    private static void refine() {
        sentence("refine: adds a demand (0) or promise (1) to a function; answers how many of these it has: 1 to 4", x -> {
            for (int f : within(0, 3)) {
                for (int n : within(1, 4)) {
                    due(n, () -> x.refine(f, DEMAND, 1, 0, n));
                }
                due(STATE, () -> x.refine(f, DEMAND, 1, 0, 5));
                for (int n : within(1, 4)) {
                    due(n, () -> x.refine(f, PROMISE, 1, 0, n));
                }
                due(STATE, () -> x.refine(f, PROMISE, 1, 0, 5));
            }
        });
        sentence("refine: a function with 4 promises has room for demands, and another function for both", x -> {
            on(x, 1).promises(3, 0, 1).promises(3, 0, 2).promises(3, 0, 3).promises(3, 0, 4);
            due(1, () -> x.refine(1, DEMAND, 1, 0, 0));
            due(1, () -> x.refine(0, PROMISE, 1, 0, 0));
            due(1, () -> x.refine(2, PROMISE, 1, 0, 0));
            due(1, () -> x.refine(2, DEMAND, 1, 0, 0));
        });
        sentence("refine: the same relation may be added again, and counts again", x -> {
            on(x, 0).demands(1, 0, 0).demands(1, 0, 0).demands(1, 0, 0).demands(1, 0, 0);
            due(4, () -> x.count(0, DEMANDS));
            due(STATE, () -> x.refine(0, DEMAND, 1, 0, 0));
        });
        sentence("refine: functions 0 .. 3, and each its own", x -> {
            for (int f : within(0, 3)) {
                due(1, () -> x.refine(f, DEMAND, 1, 0, f));
            }
            for (int f : within(0, 3)) {
                due(f, () -> x.most(f, 0, 1, 0));
            }
        });
        sentence("refine: names 0 .. 2 of a demand, on both sides", unused -> {
            for (int a : within(0, 2)) {
                for (int b : within(0, 2)) {
                    LiquidChecker x = new LiquidChecker();
                    due(1, () -> x.refine(0, DEMAND, a, b, 5));
                    due(a == b ? 0 : 5, () -> x.most(0, 0, a, b));
                    due(a == b ? (Object) 0 : ARITHMETIC, () -> x.most(0, 0, b, a));
                }
            }
        });
        sentence("refine: names 0 .. 3 of a promise, on both sides", unused -> {
            for (int a : within(0, 3)) {
                for (int b : within(0, 3)) {
                    LiquidChecker x = new LiquidChecker();
                    due(1, () -> x.refine(0, PROMISE, a, b, 5));
                    on(x, 1).call(4, 0, 1, 2);
                    int aOfCall = a == 3 ? 4 : a;
                    int bOfCall = b == 3 ? 4 : b;
                    due(a == b ? 0 : 5, () -> x.most(1, 1, aOfCall, bOfCall));
                    due(a == b ? (Object) 0 : ARITHMETIC, () -> x.most(1, 1, bOfCall, aOfCall));
                }
            }
        });
        sentence("refine: k from -1000 to 1000", unused -> {
            for (int k : new int[] {-1000, -999, 0, 999, 1000}) {
                LiquidChecker x = new LiquidChecker();
                due(1, () -> x.refine(0, DEMAND, 1, 2, k));
                due(k, () -> x.most(0, 0, 1, 2));
                due(1, () -> x.refine(1, PROMISE, 3, 2, k));
                on(x, 0).call(4, 1, 1, 2);
                due(k, () -> x.most(0, 1, 4, 2));
            }
        });
    }

    private static void statementPlaces() {
        sentence("statement: adds a statement; answers its place: 0 to 15, in every function", x -> {
            for (int f : within(0, 3)) {
                for (int place : within(0, 15)) {
                    due(place, () -> x.statement(f, ANY, 4 + place % 8, 0, 0, 0));
                }
                due(STATE, () -> x.statement(f, ANY, 4, 0, 0, 0));
            }
        });
        sentence("statement: every kind may be the sixteenth", unused -> {
            for (int kind : within(GIVE, ANY)) {
                LiquidChecker x = new LiquidChecker();
                on(x, 0).when(1, 0, 0).filledTo(15);
                int a = kind == IF || kind == CLAIM ? 2 : 4;
                due(15, () -> x.statement(0, kind, a, 1, 2, 0));
                due(STATE, () -> x.statement(0, CLAIM, 0, 0, 0, 0));
                due(16, () -> x.count(0, STATEMENTS));
                due(kind == IF ? 3 : 2, () -> x.ways(0));
            }
        });
        sentence("statement: every kind may be the first, but an ELSE and an END", unused -> {
            for (int kind : new int[] {GIVE, CALL, ANY}) {
                due(0, () -> new LiquidChecker().statement(0, kind, 4, 1, 2, 0));
            }
            for (int kind : new int[] {IF, CLAIM, RETURN}) {
                due(0, () -> new LiquidChecker().statement(0, kind, 1, 2, 0, 0));
            }
            due(UNSUPPORTED, () -> new LiquidChecker().statement(0, ELSE, 0, 0, 0, 0));
            due(UNSUPPORTED, () -> new LiquidChecker().statement(0, END, 0, 0, 0, 0));
        });
    }

    private static void statementRanges() {
        sentence("statement: a new name 4 .. 11, in each kind that gives one", unused -> {
            for (int kind : new int[] {GIVE, CALL, ANY}) {
                for (int name : within(4, 11)) {
                    LiquidChecker x = new LiquidChecker();
                    due(0, () -> x.statement(0, kind, name, 1, 1, 0));
                    due(1, () -> x.statement(0, RETURN, 0, name, 0, 0));
                }
            }
        });
        sentence("statement: a name that is used 0 .. 2, without having been given", unused -> {
            for (int name : within(0, 2)) {
                LiquidChecker x = new LiquidChecker();
                on(x, 0).give(4, name, 0).call(5, 1, name, 0).call(5, 1, 0, name).when(name, 0, 0).when(0, name, 0)
                        .claim(name, 0, 0).claim(0, name, 0).returns(name, 0);
            }
        });
        sentence("statement: a name that is used 4 .. 11, where one has been given", unused -> {
            for (int name : within(4, 11)) {
                LiquidChecker x = new LiquidChecker();
                on(x, 0).any(name).give(4, name, 0).call(5, 1, name, 0).call(5, 1, 0, name).when(name, 0, 0)
                        .when(0, name, 0).claim(name, 0, 0).claim(0, name, 0).returns(name, 0);
            }
        });
        sentence("statement: k from -1000 to 1000 (0, 2, 5, 6)", unused -> {
            for (int k : new int[] {-1000, -999, 0, 999, 1000}) {
                LiquidChecker x = new LiquidChecker();
                on(x, 0).give(4, 1, k).when(1, 2, k).claim(2, 0, k).returns(4, k);
                due(k, () -> x.most(0, 1, 4, 1));
                due(k, () -> x.most(0, 2, 1, 2));
                due(k, () -> x.most(0, 3, 2, 0));
            }
            LiquidChecker x = new LiquidChecker();
            on(x, 0).promises(3, 1, 1000).promises(1, 3, -1000).returns(1, 1000);
            due(-1, () -> x.check(0));
            on(x, 1).promises(3, 1, -1000).promises(1, 3, 1000).returns(1, -1000);
            due(-1, () -> x.check(1));
        });
        sentence("statement: k a function, 0 .. 3 (1)", x -> {
            for (int f : within(0, 3)) {
                due(1, () -> x.refine(f, PROMISE, 3, 0, 10 * f));
            }
            for (int f : within(0, 3)) {
                due(f, () -> x.statement(0, CALL, 4, 1, 2, f));
                due(10 * f, () -> x.most(0, f + 1, 4, 0));
            }
        });
        sentence("statement: a name is given by any statement before: also on a side that is over, and behind a RETURN", x -> {
            on(x, 0).when(1, 0, 0).any(4).otherwise().claim(4, 4, 0).end().returns(4, 0);
            on(x, 1).returns(0, 0).any(11).claim(11, 0, 0);
            due(-1, () -> x.check(0));
            due(-1, () -> x.check(1));
        });
    }

    private static void statementSides() {
        sentence("statement: an ELSE or END with an IF that is open, to the last of six", x -> {
            Lines lines = on(x, 0);
            for (int i = 0; i < 6; i++) {
                lines.when(1, 0, i);
            }
            for (int i = 0; i < 5; i++) {
                lines.otherwise().end();
            }
            due(STATE, () -> x.statement(0, ELSE, 0, 0, 0, 0));
            due(1, () -> x.count(0, OPEN_IFS));
            on(x, 1).when(1, 0, 0).when(1, 0, 0).when(1, 0, 0).when(1, 0, 0).when(1, 0, 0).when(1, 0, 0)
                    .end().end().end().end().end().otherwise().end();
            due(UNSUPPORTED, () -> x.statement(1, END, 0, 0, 0, 0));
            due(0, () -> x.count(1, OPEN_IFS));
        });
        sentence("statement: an ELSE for each IF, the outer one's behind the END of the inner one", x -> {
            on(x, 0).when(1, 0, 0).when(2, 0, 0).otherwise();
            due(UNSUPPORTED, () -> x.statement(0, ELSE, 0, 0, 0, 0));
            on(x, 0).end().otherwise();
            due(UNSUPPORTED, () -> x.statement(0, ELSE, 0, 0, 0, 0));
            on(x, 0).end();
            due(UNSUPPORTED, () -> x.statement(0, ELSE, 0, 0, 0, 0));
            on(x, 0).when(1, 0, 5).otherwise();
        });
        sentence("statement: an IF has up to 5 others before it: the sixth is taken, the seventh is not", x -> {
            for (int f : within(0, 3)) {
                for (int i : within(0, 5)) {
                    due(i, () -> x.statement(f, IF, 1, 0, 0, 0));
                }
                due(STATE, () -> x.statement(f, IF, 1, 0, 0, 0));
                due(6, () -> x.statement(f, CLAIM, 0, 0, 0, 0));
                due(STATE, () -> x.statement(f, IF, 1, 0, 0, 0));
            }
        });
        sentence("statement: IFs that have their END are others before it, too", x -> {
            Lines lines = on(x, 0);
            for (int i = 0; i < 5; i++) {
                lines.when(1, 0, i).end();
            }
            due(10, () -> x.statement(0, IF, 1, 0, 0, 0));
            due(11, () -> x.statement(0, END, 0, 0, 0, 0));
            due(STATE, () -> x.statement(0, IF, 1, 0, 0, 0));
            due(12, () -> x.statement(0, ANY, 4, 0, 0, 0));
        });
    }

    private static void statementUnused() {
        sentence("statement: what a kind has no use for may be anything", unused -> {
            for (int thing : new int[] {-1, 3, 4, 11, 12, -1001, 1001, Integer.MIN_VALUE, Integer.MAX_VALUE}) {
                LiquidChecker x = new LiquidChecker();
                on(x, 0).line(GIVE, 5, 1, thing, 7).line(IF, 1, 2, thing, 7).line(ELSE, thing, thing, thing, thing)
                        .line(END, thing, thing, thing, thing).line(CLAIM, 5, 1, thing, 7)
                        .line(ANY, 6, thing, thing, thing).line(RETURN, thing, 5, thing, -7);
                on(x, 0).promises(3, 1, 0).promises(1, 3, 0);
                due(-1, () -> x.check(0));
                due(2, () -> x.ways(0));
            }
        });
        sentence("statement: what a kind has no use for gives no name", x -> {
            on(x, 0).line(RETURN, 4, 1, 5, 0).line(IF, 1, 2, 6, 0).line(ELSE, 7, 8, 9, 0).line(END, 7, 8, 9, 0)
                    .line(CLAIM, 1, 1, 10, 0);
            for (int name : within(4, 11)) {
                due(UNSUPPORTED, () -> x.statement(0, RETURN, 0, name, 0, 0));
            }
        });
    }

    private static void clear() {
        sentence("clear: answers how many statements it had: 0 to 16", x -> {
            for (int size : within(0, 16)) {
                on(x, 1).filledTo(size);
                due(size, () -> x.clear(1));
                due(0, () -> x.clear(1));
            }
        });
        sentence("clear: demands and promises do not count among what it answers", x -> {
            on(x, 0).demands(1, 0, 0).demands(2, 0, 0).promises(3, 0, 0);
            due(0, () -> x.clear(0));
            due(0, () -> x.count(0, DEMANDS));
            due(0, () -> x.count(0, PROMISES));
        });
        sentence("clear: takes statements away, with the names that they gave and the IFs that were open", x -> {
            Lines lines = on(x, 0);
            for (int name : within(4, 11)) {
                lines.any(name);
            }
            lines.when(4, 0, 0).otherwise().when(5, 0, 0);
            due(11, () -> x.clear(0));
            due(0, () -> x.count(0, STATEMENTS));
            due(0, () -> x.count(0, OPEN_IFS));
            comesTo(x, 0, 1);
            for (int name : within(4, 11)) {
                due(UNSUPPORTED, () -> x.statement(0, RETURN, 0, name, 0, 0));
            }
            due(UNSUPPORTED, () -> x.statement(0, ELSE, 0, 0, 0, 0));
            due(UNSUPPORTED, () -> x.statement(0, END, 0, 0, 0, 0));
        });
        sentence("clear: takes demands and promises away, so that there is room for four again", x -> {
            on(x, 0).demands(1, 0, 0).demands(0, 1, -1).promises(3, 0, -1).promises(3, 0, -1).promises(3, 0, -1)
                    .promises(3, 0, -1);
            due(0, () -> x.ways(0));
            due(0, () -> x.clear(0));
            due(1, () -> x.ways(0));
            due(-1, () -> x.check(0));
            due(ARITHMETIC, () -> x.most(0, 0, 1, 0));
            on(x, 0).demands(1, 0, 4).demands(1, 0, 3).demands(1, 0, 2).demands(1, 0, 1)
                    .promises(3, 0, 0).promises(3, 0, 0).promises(3, 0, 0).promises(3, 0, 0);
            due(1, () -> x.most(0, 0, 1, 0));
            due(-1, () -> x.check(0));
        });
        sentence("clear: there is room for sixteen statements and six IFs again", x -> {
            for (int round = 0; round < 3; round++) {
                Lines lines = on(x, 2);
                for (int i = 0; i < 6; i++) {
                    lines.when(1, 0, -i);
                }
                lines.filledTo(16);
                due(STATE, () -> x.statement(2, IF, 1, 0, 0, 0));
                due(7, () -> x.ways(2));
                due(16, () -> x.clear(2));
            }
            // An IF of before has left nothing behind where other statements stand now.
            on(x, 2).filledTo(3);
            comesTo(x, 2, 1, 1, 1, 1);
            due(1, () -> x.ways(2));
        });
        sentence("clear: of a function, and of no other", x -> {
            for (int f : within(0, 3)) {
                on(x, f).demands(1, 0, f).promises(3, 0, f).any(4).when(4, 0, 0);
            }
            for (int cleared : within(0, 3)) {
                due(2, () -> x.clear(cleared));
                for (int f : within(0, 3)) {
                    boolean isCleared = f <= cleared;
                    due(isCleared ? 0 : 2, () -> x.count(f, STATEMENTS));
                    due(isCleared ? 0 : 1, () -> x.count(f, OPEN_IFS));
                    due(isCleared ? 0 : 1, () -> x.count(f, DEMANDS));
                    due(isCleared ? 0 : 1, () -> x.count(f, PROMISES));
                    due(isCleared ? (Object) ARITHMETIC : f, () -> x.most(f, 0, 1, 0));
                }
            }
        });
    }

    private static void check() {
        sentence("check: -1 if the function is SOUND", x -> {
            due(-1, () -> x.check(0));
            on(x, 0).promises(3, 1, 0).demands(0, 1, 0).when(1, 0, 5).returns(1, 0).end().claim(0, 1, -6).returns(1, -6);
            due(-1, () -> x.check(0));
        });
        sentence("check: the least place at which something is not shown, not the one that a way comes to first", x -> {
            // The first side is followed to its end before the other one, and breaks a promise there.
            on(x, 0).promises(3, 0, 0).when(1, 0, 0).otherwise().claim(1, 0, 0).returns(0, 0).end().returns(0, 1);
            due(2, () -> x.check(0));
            on(x, 1).promises(3, 0, 0).when(1, 0, 0).claim(0, 0, -1).otherwise().returns(0, 1);
            due(1, () -> x.check(1));
        });
        sentence("check: the least place: of several on one way the first", x -> {
            on(x, 0).claim(0, 1, 0).claim(1, 2, 0).promises(3, 0, -1);
            due(0, () -> x.check(0));
            on(x, 0).demands(0, 1, 0);
            due(1, () -> x.check(0));
            on(x, 0).demands(1, 2, 0);
            due(2, () -> x.check(0));
        });
        sentence("check: the least place is 0 at least, and that behind the sixteenth statement at most", x -> {
            on(x, 0).claim(1, 0, 0);
            due(0, () -> x.check(0));
            on(x, 1).promises(3, 0, -1).filledTo(16);
            due(16, () -> x.check(1));
        });
        sentence("check: what is shown on one way and not on another is not shown", x -> {
            on(x, 0).when(1, 0, 0).end().claim(1, 0, 0);
            due(2, () -> x.check(0));
            on(x, 1).when(1, 0, 0).end().claim(0, 1, -1);
            due(2, () -> x.check(1));
        });
        sentence("check: functions 0 .. 3, and each its own", x -> {
            for (int f : within(0, 3)) {
                on(x, f).filledTo(f).claim(1, 0, 0);
            }
            for (int f : within(0, 3)) {
                due(f, () -> x.check(f));
            }
        });
    }

    private static void ways() {
        sentence("ways: how many ways are feasible to their end: 0 at least", x -> {
            on(x, 0).claim(0, 0, -1);
            due(0, () -> x.ways(0));
            on(x, 1).demands(0, 0, -1);
            due(0, () -> x.ways(1));
        });
        sentence("ways: 1 where there is no IF, empty or full", x -> {
            due(1, () -> x.ways(0));
            on(x, 0).filledTo(16);
            due(1, () -> x.ways(0));
        });
        sentence("ways: two for each IF, up to 64", x -> {
            Lines lines = on(x, 0);
            for (int name : within(4, 7)) {
                lines.any(name);
            }
            int ways = 1;
            for (int name : new int[] {1, 2, 4, 5, 6, 7}) {
                lines.when(name, 0, 0);
                ways *= 2;
                due(ways, () -> x.ways(0));
                lines.end();
                due(ways, () -> x.ways(0));
            }
            same(64, ways);
        });
        sentence("ways: also those on which something is not shown", x -> {
            on(x, 0).promises(3, 3, -1).claim(1, 0, 0).when(2, 0, 0);
            due(2, () -> x.ways(0));
            due(0, () -> x.check(0));
        });
        sentence("ways: two ways that come to the same end are two", x -> {
            on(x, 0).when(1, 0, 0).end().returns(0, 0);
            due(2, () -> x.ways(0));
        });
        sentence("ways: functions 0 .. 3, and each its own", x -> {
            for (int f : within(0, 3)) {
                Lines lines = on(x, f);
                for (int i = 0; i < f; i++) {
                    lines.when(1, 0, i).end();
                }
            }
            for (int f : within(0, 3)) {
                due(f + 1, () -> x.ways(f));
            }
        });
    }

    private static void comes() {
        sentence("comes: the places are 0 .. the one behind the last statement, in an empty function", x -> {
            due(1, () -> x.comes(0, 0));
            due(ARGUMENT, () -> x.comes(0, 1));
            due(ARGUMENT, () -> x.comes(0, -1));
        });
        sentence("comes: the places are 0 .. the one behind the last statement, in a full one", x -> {
            on(x, 0).filledTo(16);
            for (int place : within(0, 16)) {
                due(1, () -> x.comes(0, place));
            }
            due(ARGUMENT, () -> x.comes(0, 17));
            due(ARGUMENT, () -> x.comes(0, -1));
        });
        sentence("comes: a statement more makes a place more, and clear takes all but the first", x -> {
            for (int size : within(0, 15)) {
                due(1, () -> x.comes(0, size));
                due(ARGUMENT, () -> x.comes(0, size + 1));
                on(x, 0).filledTo(size + 1);
            }
            due(16, () -> x.clear(0));
            due(1, () -> x.comes(0, 0));
            due(ARGUMENT, () -> x.comes(0, 1));
        });
        sentence("comes: 0 where no feasible way comes, also at place 0 and behind the last statement", x -> {
            on(x, 0).demands(1, 0, 0).demands(0, 1, -1).any(4);
            comesTo(x, 0, 0, 0);
            on(x, 1).returns(0, 0);
            comesTo(x, 1, 1, 0);
        });
        sentence("comes: 1 where one way of many comes", x -> {
            on(x, 0).when(1, 0, 0).when(2, 0, 0).when(1, 2, 0).any(4);
            comesTo(x, 0, 1, 1, 1, 1, 1);
            on(x, 0).demands(2, 1, -1);
            comesTo(x, 0, 1, 1, 1, 0, 1);
        });
        sentence("comes: a way that an IF's side ends with a RETURN does not come to its ELSE or END", x -> {
            on(x, 0).when(1, 0, 0).returns(0, 0).otherwise().returns(0, 0).end();
            comesTo(x, 0, 1, 1, 0, 1, 0, 0);
        });
    }

    private static void most() {
        sentence("most: the places are 0 .. the one behind the last statement, empty and full", x -> {
            due(0, () -> x.most(0, 0, 0, 0));
            due(ARGUMENT, () -> x.most(0, 1, 0, 0));
            on(x, 0).demands(1, 0, 3).filledTo(16);
            for (int place : within(0, 16)) {
                due(3, () -> x.most(0, place, 1, 0));
            }
            due(ARGUMENT, () -> x.most(0, 17, 1, 0));
        });
        sentence("most: names 0 to 2, 4 to 11, on both sides; each with itself is 0 apart", x -> {
            Lines lines = on(x, 0);
            for (int name : within(4, 11)) {
                lines.give(name, 0, name);
            }
            lines.demands(1, 0, 1).demands(0, 1, -1).demands(2, 0, 2).demands(0, 2, -2);
            int[] names = {0, 1, 2, 4, 5, 6, 7, 8, 9, 10, 11};
            for (int a : names) {
                for (int b : names) {
                    due(a - b, () -> x.most(0, 8, a, b));
                }
            }
        });
        sentence("most: at a place, before its statement", x -> {
            on(x, 0).give(4, 0, 1).give(4, 0, 2).claim(1, 0, 3).when(1, 0, 2).claim(1, 0, 1);
            due(ARITHMETIC, () -> x.most(0, 0, 4, 0));
            due(1, () -> x.most(0, 1, 4, 0));
            due(2, () -> x.most(0, 2, 4, 0));
            due(ARITHMETIC, () -> x.most(0, 2, 1, 0));
            due(3, () -> x.most(0, 3, 1, 0));
            due(2, () -> x.most(0, 4, 1, 0));
            due(3, () -> x.most(0, 5, 1, 0));
        });
        sentence("most: the greatest on any feasible way that comes there, the first or the last", x -> {
            on(x, 0).when(1, 0, 0).give(4, 0, -5).otherwise().when(1, 0, 9).give(4, 0, -3).otherwise().give(4, 0, -4)
                    .end().end();
            due(-3, () -> x.most(0, 9, 4, 0));
            due(5, () -> x.most(0, 9, 0, 4));
            on(x, 0).demands(1, 0, 0);
            due(-5, () -> x.most(0, 9, 4, 0));
            on(x, 1).when(1, 0, 0).give(4, 0, 7).otherwise().give(4, 0, 6).end();
            due(7, () -> x.most(1, 5, 4, 0));
            due(-6, () -> x.most(1, 5, 0, 4));
        });
        sentence("most: a way that is not feasible as far as the place does not count", x -> {
            on(x, 0).when(1, 0, 0).give(4, 0, 100).claim(0, 1, -1).otherwise().give(4, 0, 1).end();
            due(100, () -> x.most(0, 2, 4, 0));
            due(1, () -> x.most(0, 6, 4, 0));
        });
        sentence("most: a way that ends before the place does not count", x -> {
            on(x, 0).when(1, 0, 0).give(4, 0, 100).returns(4, 0).end().give(4, 0, 1);
            due(1, () -> x.most(0, 5, 4, 0));
        });
        sentence("most: a number below 0 and 0 are answers like others, -1 too", x -> {
            on(x, 0).demands(1, 0, -1).demands(2, 1, 0);
            due(-1, () -> x.most(0, 0, 1, 0));
            due(0, () -> x.most(0, 0, 2, 1));
            due(-1, () -> x.most(0, 0, 2, 0));
        });
    }

    private static void follows() {
        sentence("follows: 1 where there is no promise to be shown, whatever the other promises", x -> {
            for (int f : within(0, 3)) {
                for (int from : within(0, 3)) {
                    due(1, () -> x.follows(f, from));
                }
            }
            on(x, 1).promises(3, 0, -5);
            due(1, () -> x.follows(0, 1));
            due(0, () -> x.follows(1, 0));
        });
        sentence("follows: the promises are shown at the same k, and not at one less", x -> {
            on(x, 0).promises(3, 1, 5);
            on(x, 1).promises(3, 1, 5);
            on(x, 2).promises(3, 1, 6);
            on(x, 3).promises(3, 1, 4);
            due(1, () -> x.follows(0, 1));
            due(0, () -> x.follows(0, 2));
            due(1, () -> x.follows(0, 3));
        });
        sentence("follows: at both ends of k", x -> {
            on(x, 0).promises(3, 1, 1000);
            on(x, 1).promises(3, 1, -1000);
            due(1, () -> x.follows(0, 0));
            due(1, () -> x.follows(0, 1));
            due(0, () -> x.follows(1, 0));
        });
        sentence("follows: a function from itself, with promises and demands of its own", x -> {
            for (int f : within(0, 3)) {
                on(x, f).demands(1, 2, f).promises(3, 1, 0).promises(2, 3, 5).promises(1, 2, f);
                due(1, () -> x.follows(f, f));
            }
        });
        sentence("follows: all four promises have to be shown", unused -> {
            int[][] promises = {{3, 0}, {0, 3}, {3, 1}, {1, 3}};
            for (int missing : within(0, 3)) {
                LiquidChecker x = new LiquidChecker();
                for (int i : within(0, 3)) {
                    on(x, 2).promises(promises[i][0], promises[i][1], 1);
                    on(x, 3).promises(promises[i][0], promises[i][1], i == missing ? 2 : 1);
                }
                due(0, () -> x.follows(2, 3));
                due(1, () -> x.follows(3, 2));
            }
        });
        sentence("follows: from its demands: they help to show its promises", x -> {
            on(x, 0).promises(3, 0, 7);
            on(x, 1).promises(3, 1, 2);
            due(0, () -> x.follows(0, 1));
            on(x, 0).demands(1, 0, 6);
            due(0, () -> x.follows(0, 1));
            on(x, 0).demands(1, 0, 5);
            due(1, () -> x.follows(0, 1));
        });
        sentence("follows: from its demands alone: the other one's demands do not help, nor its statements", x -> {
            on(x, 0).promises(3, 0, 7);
            on(x, 1).promises(3, 1, 2).demands(1, 0, 5).returns(0, 0);
            due(0, () -> x.follows(0, 1));
            on(x, 0).returns(0, 0);
            due(-1, () -> x.check(0));
            due(0, () -> x.follows(0, 1));
        });
        sentence("follows: the other one's demands need not be met either", x -> {
            on(x, 0).promises(3, 0, 7);
            on(x, 1).promises(3, 0, 7).demands(0, 0, -1);
            due(1, () -> x.follows(0, 1));
            on(x, 2).promises(3, 0, 8).demands(0, 0, -1);
            due(0, () -> x.follows(0, 2));
        });
        sentence("follows: for any result that the promises of another one allow: 1 where they allow none", x -> {
            on(x, 0).promises(3, 0, -1000);
            on(x, 1).promises(3, 0, 0).promises(0, 3, 0);
            due(0, () -> x.follows(0, 1));
            on(x, 1).promises(0, 3, -1);
            due(1, () -> x.follows(0, 1));
            due(0, () -> x.follows(1, 0));
        });
        sentence("follows: 1 where the other one's promises allow none for parameters that the demands allow", x -> {
            on(x, 0).promises(3, 0, -1000).demands(1, 2, 0);
            on(x, 1).promises(2, 1, 0);
            due(0, () -> x.follows(0, 1));
            on(x, 2).promises(2, 1, -1);
            due(1, () -> x.follows(0, 2));
        });
        sentence("follows: 1 where the demands leave no parameters", x -> {
            on(x, 0).promises(3, 0, -1000).demands(1, 0, 0).demands(0, 1, 0);
            due(0, () -> x.follows(0, 1));
            on(x, 0).demands(0, 1, -1);
            due(1, () -> x.follows(0, 1));
        });
        sentence("follows: for the same parameters: the first is not the second", x -> {
            on(x, 0).promises(3, 1, 0);
            on(x, 1).promises(3, 2, 0);
            due(0, () -> x.follows(0, 1));
            on(x, 0).demands(2, 1, 0);
            due(1, () -> x.follows(0, 1));
            due(0, () -> x.follows(1, 0));
        });
    }

    private static void count() {
        sentence("count: statements (0), 0 to 16", x -> {
            for (int size : within(0, 16)) {
                on(x, 3).filledTo(size);
                due(size, () -> x.count(3, STATEMENTS));
            }
        });
        sentence("count: IFs that are open (1), 0 to 6 and back; an ELSE leaves its IF open", x -> {
            due(0, () -> x.count(0, OPEN_IFS));
            for (int open : within(1, 6)) {
                on(x, 0).when(1, 0, 0);
                due(open, () -> x.count(0, OPEN_IFS));
            }
            on(x, 0).otherwise();
            due(6, () -> x.count(0, OPEN_IFS));
            for (int open : new int[] {5, 4, 3, 2, 1, 0}) {
                on(x, 0).end();
                due(open, () -> x.count(0, OPEN_IFS));
            }
        });
        sentence("count: demands (2), 0 to 4, and promises (3), 0 to 4", x -> {
            for (int f : within(0, 3)) {
                due(0, () -> x.count(f, DEMANDS));
                due(0, () -> x.count(f, PROMISES));
                for (int n : within(1, 4)) {
                    on(x, f).demands(1, 0, 0);
                    due(n, () -> x.count(f, DEMANDS));
                    due(n - 1, () -> x.count(f, PROMISES));
                    on(x, f).promises(1, 0, 0);
                    due(n, () -> x.count(f, PROMISES));
                }
                due(0, () -> x.count(f, STATEMENTS));
                due(0, () -> x.count(f, OPEN_IFS));
            }
        });
        sentence("count: IFs behind a RETURN, and to which no way comes, are open as well", x -> {
            on(x, 0).demands(0, 0, -1).returns(0, 0).when(1, 0, 0);
            due(1, () -> x.count(0, OPEN_IFS));
            due(2, () -> x.count(0, STATEMENTS));
        });
    }

    public static void main(String[] args) {
        newObject();
        refine();
        statementPlaces();
        statementRanges();
        statementSides();
        statementUnused();
        clear();
        check();
        ways();
        comes();
        most();
        follows();
        count();
        endOfTests();
    }
}
