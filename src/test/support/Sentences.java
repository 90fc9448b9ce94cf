import java.util.Arrays;
import java.util.IdentityHashMap;
import java.util.Map;
import java.util.NoSuchElementException;

/** What the tests share: each bears a sentence of the document, and tells it where it is broken. */
abstract class Sentences {
    static final int GIVE = 0;
    static final int CALL = 1;
    static final int IF = 2;
    static final int ELSE = 3;
    static final int END = 4;
    static final int CLAIM = 5;
    static final int RETURN = 6;
    static final int ANY = 7;

    static final int DEMAND = 0;
    static final int PROMISE = 1;

    static final int STATEMENTS = 0;
    static final int OPEN_IFS = 1;
    static final int DEMANDS = 2;
    static final int PROMISES = 3;

    static final Class<?> ARGUMENT = IllegalArgumentException.class;
    static final Class<?> STATE = IllegalStateException.class;
    static final Class<?> UNSUPPORTED = UnsupportedOperationException.class;
    static final Class<?> NO_ELEMENT = NoSuchElementException.class;
    static final Class<?> ARITHMETIC = ArithmeticException.class;

    private static final int GREATEST_CALLS = 512;
    /** Above what a setting takes (four full functions: 108) with the calls that are refused (up to 160). */
    private static final int CALLS_BEFORE = 300;

    /** What each setting answers where no call has been refused. */
    private static final Map<Setting, String> UNTOUCHED = new IdentityHashMap<>();

    private static String told = "";
    private static int sentences = 0;
    private static int tried = 0;
    private static int wrong = 0;

    interface Body {
        void run(LiquidChecker x);
    }

    interface Call {
        int answer();
    }

    interface CallOn {
        int answer(LiquidChecker x);
    }

    interface Setting {
        void make(LiquidChecker x);
    }

    /** Runs a test on a new object. */
    static void sentence(String words, Body body) {
        told = words;
        sentences++;
        body.run(new LiquidChecker());
    }

    static Object answer(Call call) {
        try {
            return call.answer();
        } catch (RuntimeException e) {
            return e.getClass();
        }
    }

    /** want is the answer, or the class of what is thrown. */
    static void due(Object want, Call call) {
        same(want, answer(call));
    }

    static void same(Object want, Object got) {
        tried++;
        if (!got.equals(want)) {
            wrong++;
            System.out.println(told + " (" + lineOfTest() + "): answered " + got + ", due is " + want);
        }
    }

    private static String lineOfTest() {
        for (StackTraceElement element : new Throwable().getStackTrace()) {
            if (element.getClassName().endsWith("Test")) {
                return element.getFileName() + ":" + element.getLineNumber();
            }
        }
        return "?";
    }

    static void endOfTests() {
        System.out.println(sentences + " sentences, " + tried + " answers"
                + (wrong == 0 ? ", all as due" : ", " + wrong + " of them not as due"));
        if (wrong != 0) {
            System.exit(1);
        }
    }

    static int[] within(int least, int greatest) {
        int[] numbers = new int[greatest - least + 1];
        for (int i = 0; i < numbers.length; i++) {
            numbers[i] = least + i;
        }
        return numbers;
    }

    /** The first numbers that a range leaves out, and those that lie as far out as an int can. */
    static int[] outside(int least, int greatest) {
        return new int[] {least - 1, greatest + 1, Integer.MIN_VALUE, Integer.MAX_VALUE};
    }

    /** What is no name that can be used: those out of the range, and the RESULT. */
    static int[] unusableNames() {
        return new int[] {-1, 3, 12, Integer.MIN_VALUE, Integer.MAX_VALUE};
    }

    static Lines on(LiquidChecker x, int function) {
        return new Lines(x, function);
    }

    /** Writes a function, each piece of it with the place or the number that is due. */
    static final class Lines {
        private final LiquidChecker x;
        private final int function;
        private int place;
        private int demands;
        private int promises;

        private Lines(LiquidChecker x, int function) {
            this.x = x;
            this.function = function;
            place = x.count(function, STATEMENTS);
            demands = x.count(function, DEMANDS);
            promises = x.count(function, PROMISES);
        }

        Lines demands(int a, int b, int k) {
            demands++;
            due(demands, () -> x.refine(function, DEMAND, a, b, k));
            return this;
        }

        Lines promises(int a, int b, int k) {
            promises++;
            due(promises, () -> x.refine(function, PROMISE, a, b, k));
            return this;
        }

        Lines line(int kind, int a, int b, int c, int k) {
            due(place, () -> x.statement(function, kind, a, b, c, k));
            place++;
            return this;
        }

        Lines give(int a, int b, int k) {
            return line(GIVE, a, b, 0, k);
        }

        Lines call(int a, int called, int b, int c) {
            return line(CALL, a, b, c, called);
        }

        Lines when(int a, int b, int k) {
            return line(IF, a, b, 0, k);
        }

        Lines otherwise() {
            return line(ELSE, 0, 0, 0, 0);
        }

        Lines end() {
            return line(END, 0, 0, 0, 0);
        }

        Lines claim(int a, int b, int k) {
            return line(CLAIM, a, b, 0, k);
        }

        Lines returns(int b, int k) {
            return line(RETURN, 0, b, 0, k);
        }

        Lines any(int a) {
            return line(ANY, a, 0, 0, 0);
        }

        /** Statements that change nothing, up to a number of statements in all. */
        Lines filledTo(int size) {
            while (place < size) {
                claim(0, 0, 0);
            }
            return this;
        }
    }

    /** For each place of a function, from 0 to the one behind its last statement, whether a way comes there. */
    static void comesTo(LiquidChecker x, int function, int... want) {
        int[] got = new int[want.length];
        for (int place = 0; place < want.length; place++) {
            got[place] = x.comes(function, place);
        }
        same(Arrays.toString(want), Arrays.toString(got));
        due(want.length - 1, () -> x.count(function, STATEMENTS));
    }

    /** The call is refused, and all later calls answer as if it had not been made. */
    static void refused(Class<?> want, Setting setting, CallOn call) {
        LiquidChecker x = new LiquidChecker();
        setting.make(x);
        due(want, () -> call.answer(x));
        changesNothing(setting, call);
    }

    static void changesNothing(Setting setting, CallOn call) {
        same(UNTOUCHED.computeIfAbsent(setting, untouched -> allAnswers(untouched, null)), allAnswers(setting, call));
    }

    private static String allAnswers(Setting setting, CallOn call) {
        StringBuilder answers = new StringBuilder();
        Asker asker = new Asker(setting, call, answers);
        for (int f : within(0, 3)) {
            asker.begin();
            asker.askCounts(f);
            asker.askPlaces(f);
            asker.begin();
            asker.askDistances(f);
            for (int name : within(4, 11)) {
                asker.change(f, x -> x.statement(f, RETURN, 0, name, 0, 1));
                asker.change(f, x -> x.statement(f, GIVE, name, 2, 0, -1));
            }
            for (int kind : within(IF, CLAIM)) {
                asker.change(f, x -> x.statement(f, kind, 2, 1, 0, 0));
            }
            asker.change(f, x -> x.statement(f, CALL, 4, 2, 1, f));
            asker.change(f, x -> x.refine(f, DEMAND, 2, 1, -3));
            asker.change(f, x -> x.refine(f, PROMISE, 3, 1, 3));
            asker.change(f, x -> x.clear(f));
        }
        return answers.toString();
    }

    /** Asks all that can be asked, on as many objects as the limit of calls needs. */
    private static final class Asker {
        private static final int[][] PAIRS = {{0, 1}, {1, 0}, {1, 2}, {2, 1}, {4, 0}, {0, 4}, {5, 4}, {6, 1}, {11, 11}};

        private final Setting setting;
        private final CallOn refused;
        private final StringBuilder answers;
        private LiquidChecker x;
        private int calls;

        Asker(Setting setting, CallOn refused, StringBuilder answers) {
            this.setting = setting;
            this.refused = refused;
            this.answers = answers;
        }

        void begin() {
            x = new LiquidChecker();
            int before = tried;
            setting.make(x);
            tried = before;
            calls = CALLS_BEFORE;
            if (refused != null) {
                answer(() -> refused.answer(x));
            }
        }

        void ask(CallOn call) {
            calls++;
            if (calls > GREATEST_CALLS) {
                throw new AssertionError("more calls than an object is used for");
            }
            answers.append(' ').append(answer(() -> call.answer(x)));
        }

        void askCounts(int f) {
            for (int what : within(0, 3)) {
                ask(y -> y.count(f, what));
                ask(y -> y.follows(f, what));
            }
            ask(y -> y.check(f));
            ask(y -> y.ways(f));
        }

        void askPlaces(int f) {
            for (int place : within(0, 17)) {
                ask(y -> y.comes(f, place));
            }
        }

        void askDistances(int f) {
            for (int place : within(0, 16)) {
                for (int[] pair : PAIRS) {
                    ask(y -> y.most(f, place, pair[0], pair[1]));
                }
            }
        }

        void change(int f, CallOn call) {
            begin();
            ask(call);
            askCounts(f);
            ask(y -> y.statement(f, ELSE, 0, 0, 0, 0));
            ask(y -> y.statement(f, END, 0, 0, 0, 0));
            ask(y -> y.statement(f, END, 0, 0, 0, 0));
            askCounts(f);
        }
    }
}
