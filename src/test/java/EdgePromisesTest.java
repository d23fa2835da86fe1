import java.util.function.Consumer;

/**
 * The edges of promises 1 to 17, in the document's order: the last argument that is allowed and the first that
 * is not, each call that is refused in each state, which of two exceptions comes first, and what stands then.
 */
public final class EdgePromisesTest {
    private static final int LEAST = Integer.MIN_VALUE;
    private static final int MOST = Integer.MAX_VALUE;
    // Function 0 has a parameter; 1 returns as main, 2 panics and 3 waits.
    private static final String PROGRAM = "fn 1 2; local 0; write; tuple 1; setlocal 1; on:; yield; jump on;"
        + " fn 0 1; channel 1; setglobal 0; push 5; write; push 7; spawn 0; yield; push 3; push 4; pop; pop; push 65; return;"
        + " fn 0 0; push 9; spawn 0; yield; push 66; panic;"
        + " fn 0 0; nil; receive; return";
    private static final String[] STATES = {"new", "cleared", "coded", "going", "returned", "panicked", "all wait"};

    private EdgePromisesTest() {
    }

    public static void main(String[] args) {
        newObject();
        functionArguments();
        functionsAtMost32();
        functionBehindBegin();
        codeWithoutFunction();
        codeOfNoInstruction();
        codeArguments();
        codeOfLocals();
        codeAtMost1500();
        beginOfNoFunction();
        beginWithParameters();
        beginLooksAtPlaces();
        beginLooksAtCalls();
        beginLooksAtDeferred();
        beginLooksAtEnds();
        beginLooksAtAllFunctions();
        beginForgetsWhatWasCleared();
        beginEndsWhatGoesOn();
        beginAgainIsAsTheFirstTime();
        clearOfAny();
        clearMakesRoom();
        quantumFrom1To100();
        paceFrom0To50();
        runFrom1To1000();
        runEndsWithTheRun();
        states();
        takeWithout();
        takeOf2000();
        strandArguments();
        strandsLowBits();
        operandsThatAreThere();
        countArguments();
        countsLowBits();
        digestOfNothingAndNumbers();
        digestOfEmptyAndFull();
        collectOfNothing();
        refusedInEachState();
        Due.end("EdgePromisesTest");
    }

    private static StrandRuntime in(String state) {
        StrandRuntime x = new StrandRuntime();
        if (state.equals("new")) {
            return x;
        }
        Due.load(x, PROGRAM);
        if (state.equals("coded")) {
            return x;
        }
        x.begin(state.equals("panicked") ? 2 : state.equals("all wait") ? 3 : 1);
        x.run(state.equals("going") ? 9 : 1000);
        if (state.equals("cleared")) {
            x.clear();
        }
        return x;
    }

    /** Promise 1. */
    private static void newObject() {
        StrandRuntime x = new StrandRuntime();
        Due.is("new: quantum", x.quantum(10), 10);
        Due.is("new: pace", x.pace(5), 5);
        Due.is("new: state", x.state(), 0);
        Due.is("new: functions", x.clear(), 0);
        Due.is("two objects are two: quantum of one", x.quantum(77), 10);
        Due.is("two objects are two: quantum of the other", new StrandRuntime().quantum(1), 10);
    }

    /** "IllegalArgumentException if params is not 0 to 4, locals not params to 12". */
    private static void functionArguments() {
        int[] values = {LEAST, -2, -1, 0, 1, 2, 3, 4, 5, 6, 11, 12, 13, 14, MOST};
        for (int params : values) {
            for (int locals : values) {
                StrandRuntime x = new StrandRuntime();
                String call = "function(" + params + ", " + locals + ")";
                if (params >= 0 && params <= 4 && locals >= params && locals <= 12) {
                    Due.is(call, x.function(params, locals), 0);
                    Due.is(call + " is there", x.clear(), 1);
                } else {
                    Due.refusesArgument(call, () -> x.function(params, locals));
                    Due.is(call + " is not there", x.clear(), 0);
                }
            }
        }
    }

    /** "IllegalStateException if there are 32". */
    private static void functionsAtMost32() {
        StrandRuntime x = new StrandRuntime();
        for (int f = 0; f < 32; f++) {
            Due.is("function " + f, x.function(f % 5, 12 - f % 3), f);
        }
        Due.refusesState("a 33rd function", () -> x.function(0, 0));
        Due.refusesArgument("a 33rd function with wrong arguments", () -> x.function(0, 13));
        Due.is("the last function is still the 32nd, with 11 locals", x.code(2, 10), 0);
        Due.refusesArgument("its local 11", () -> x.code(2, 11));
        Due.is("functions", x.clear(), 32);
        Due.is("a function behind clear", x.function(4, 4), 0);
    }

    /** "or a RUN was begun (see clear)". */
    private static void functionBehindBegin() {
        for (String state : new String[] {"going", "returned", "panicked", "all wait"}) {
            StrandRuntime x = in(state);
            Due.refusesState(state + ": function", () -> x.function(0, 0));
            Due.refusesState(state + ": code", () -> x.code(0, 0));
            Due.is(state + ": clear", x.clear(), 4);
            Due.is(state + ": function behind clear", x.function(0, 0), 0);
            Due.is(state + ": code behind clear", x.code(0, 0), 0);
        }
    }

    /** "IllegalStateException without a FUNCTION", which comes before what A may be and behind what op may be. */
    private static void codeWithoutFunction() {
        for (String state : new String[] {"new", "cleared"}) {
            StrandRuntime x = in(state);
            Due.refusesState(state + ": code(0, 0)", () -> x.code(0, 0));
            Due.refusesState(state + ": code(2, 0)", () -> x.code(2, 0));
            Due.refusesState(state + ": code(31, 0)", () -> x.code(31, 0));
            Due.refusesArgument(state + ": code(-1, 0)", () -> x.code(-1, 0));
            Due.refusesArgument(state + ": code(37, 0)", () -> x.code(37, 0));
        }
    }

    /** "IllegalArgumentException if there is no such one". */
    private static void codeOfNoInstruction() {
        StrandRuntime x = new StrandRuntime();
        x.function(0, 1);
        for (int op : new int[] {LEAST, -37, -1, 37, 38, 64, MOST}) {
            Due.refusesArgument("code(" + op + ", 1)", () -> x.code(op, 1));
        }
        Due.is("the first there is", x.code(0, 1), 0);
        Due.is("the last there is", x.code(36, 1), 1);
    }

    /** "IllegalArgumentException if A is not as it may be", "of others any". */
    private static void codeArguments() {
        int[] values = new int[30];
        for (int i = 0; i < 26; i++) {
            values[i] = i - 4;
        }
        values[26] = LEAST;
        values[27] = LEAST + 1;
        values[28] = MOST - 7;
        values[29] = MOST;
        for (int op = 0; op <= 36; op++) {
            if (op == 2 || op == 3) {
                continue;
            }
            StrandRuntime x = new StrandRuntime();
            x.function(0, 0);
            int place = 0;
            for (int a : values) {
                int what = op;
                if (mayBe(op, a)) {
                    Due.is("code(" + op + ", " + a + ")", x.code(op, a), place);
                    place++;
                } else {
                    Due.refusesArgument("code(" + op + ", " + a + ")", () -> x.code(what, a));
                }
            }
        }
    }

    private static boolean mayBe(int op, int a) {
        switch (op) {
            case 4: case 5: case 22: case 23:
                return a >= 0 && a <= 15;
            case 21:
                return a >= 0 && a <= 16;
            case 27:
                return a >= 0 && a <= 8;
            case 31:
                return a >= 1 && a <= 4 || a >= 9 && a <= 12;
            default:
                return true;
        }
    }

    /** "LOCALS that it has": of the last function, parameters among them. */
    private static void codeOfLocals() {
        for (int op = 2; op <= 3; op++) {
            int which = op;
            StrandRuntime x = new StrandRuntime();
            for (int locals = 0; locals <= 12; locals++) {
                x.function(Math.min(locals, 4), locals);
                int most = locals;
                for (int a = 0; a < locals; a++) {
                    Due.is("code(" + op + ", " + a + ") of " + locals, x.code(op, a), a);
                }
                Due.refusesArgument("code(" + op + ") of " + locals, () -> x.code(which, most));
                Due.refusesArgument("code(" + op + ", -1)", () -> x.code(which, -1));
                Due.refusesArgument("code(" + op + ", least)", () -> x.code(which, LEAST));
                Due.refusesArgument("code(" + op + ", most)", () -> x.code(which, MOST));
            }
            x.function(0, 3);
            Due.refusesArgument("a local that only the function before has", () -> x.code(which, 3));
        }
    }

    /** "if there are 1500 of all". */
    private static void codeAtMost1500() {
        StrandRuntime x = new StrandRuntime();
        for (int i = 0; i < 1500; i++) {
            if (i % 50 == 0) {
                Due.is("function", x.function(0, 0), i / 50);
            }
            Due.is("place", x.code(i % 50 == 49 ? 16 : 0, 49), i % 50);
        }
        Due.refusesState("instruction 1501", () -> x.code(0, 0));
        Due.refusesState("instruction 1501 with a wrong A", () -> x.code(21, 17));
        Due.refusesArgument("instruction 1501 that is none", () -> x.code(-1, 0));
        Due.is("a function without instructions is still taken", x.function(0, 0), 30);
        Due.refusesState("its first instruction", () -> x.code(0, 0));
        Due.refusesArgument("begin, as that has none", () -> x.begin(0));
        x.clear();
        x.function(0, 0);
        for (int i = 0; i < 1500; i++) {
            x.code(i == 1499 ? 35 : i == 0 ? 16 : 0, i == 0 ? 1498 : 77);
        }
        x.begin(0);
        Due.is("the last of 1500 in one function is run", x.run(1000), 3);
        Due.is("its panic", x.strand(0, 6), 77);
    }

    /** "IllegalArgumentException if there is no FUNCTION f". */
    private static void beginOfNoFunction() {
        StrandRuntime none = new StrandRuntime();
        for (int f : new int[] {LEAST, -1, 0, 1, 31, 32, MOST}) {
            Due.refusesArgument("begin(" + f + ") of none", () -> none.begin(f));
        }
        StrandRuntime x = new StrandRuntime();
        for (int f = 0; f < 32; f++) {
            x.function(0, 0);
            x.code(16, 0);
        }
        for (int f : new int[] {LEAST, -1, 32, MOST}) {
            Due.refusesArgument("begin(" + f + ") of 32", () -> x.begin(f));
            Due.is("state", x.state(), 0);
        }
        for (int f : new int[] {0, 31}) {
            x.begin(f);
            Due.is("begin(" + f + "): main's function", x.strand(0, 2), f);
        }
    }

    /** "or it has PARAMETERS". */
    private static void beginWithParameters() {
        for (int params = 0; params <= 4; params++) {
            StrandRuntime x = new StrandRuntime();
            x.function(params, 4);
            x.code(16, 0);
            if (params == 0) {
                x.begin(0);
                Due.is("no parameters: state", x.state(), 1);
            } else {
                Due.refusesArgument(params + " parameters", () -> x.begin(0));
                Due.is(params + " parameters: state", x.state(), 0);
            }
        }
    }

    private static void begins(boolean due, String text) {
        StrandRuntime x = new StrandRuntime();
        Due.load(x, text);
        if (due) {
            x.begin(0);
            Due.is(text + ": state", x.state(), 1);
        } else {
            Due.refusesArgument("begin of " + text, () -> x.begin(0));
            Due.is(text + ": state", x.state(), 0);
        }
    }

    /** "or some INSTRUCTION goes to a place that is none". */
    private static void beginLooksAtPlaces() {
        for (int a : new int[] {LEAST, -1, 0, 1, 2, 3, MOST}) {
            begins(a >= 0 && a <= 2, "fn 0 0; push 0; jumpzero " + a + "; jump 0");
            begins(a >= 0 && a <= 2, "fn 0 0; push 0; pop; jump " + a);
            begins(a >= 0 && a <= 2, "fn 0 0; push 1; return; fn 1 1; push 0; pop; jump " + a + "; fn 0 0; jump 0");
        }
        begins(false, "fn 0 0; push 1; jump 3; fn 0 0; push 1; push 2; pop; pop; jump 0");
    }

    /** "calls a FUNCTION that is none": by 18 or 20. */
    private static void beginLooksAtCalls() {
        for (String op : new String[] {"call ", "spawn "}) {
            for (int a : new int[] {LEAST, -1, 0, 1, 2, 31, 32, MOST}) {
                begins(a == 0 || a == 1, "fn 0 0; " + op + a + "; jump 0; fn 4 4; jump 0");
            }
        }
    }

    /** "or defers one that has not one PARAMETER", or that is none. */
    private static void beginLooksAtDeferred() {
        String others = "; jump 0; fn 1 1; jump 0; fn 2 2; jump 0; fn 1 12; jump 0; fn 4 4; jump 0";
        for (int a : new int[] {LEAST, -1, 0, 1, 2, 3, 4, 5, 32, MOST}) {
            begins(a == 1 || a == 3, "fn 0 0; push 0; defer " + a + others);
        }
    }

    /** "or a FUNCTION does not end with 16, 19 or 35 (so if it has no INSTRUCTIONS)". */
    private static void beginLooksAtEnds() {
        for (int op = 0; op <= 36; op++) {
            StrandRuntime x = new StrandRuntime();
            x.function(0, 1);
            x.code(16, 0);
            x.code(op, op == 31 ? 1 : 0);
            boolean due = op == 16 || op == 19 || op == 35;
            if (due) {
                x.begin(0);
            } else {
                Due.refusesArgument("begin of one that ends with " + op, () -> x.begin(0));
            }
            Due.is("ends with " + op, x.state(), due ? 1 : 0);
        }
        begins(false, "fn 0 0");
        begins(false, "fn 0 0; jump 0; fn 0 0");
        begins(false, "fn 0 0; jump 0; fn 0 0; fn 0 0; jump 0");
    }

    /** All that is said of "some INSTRUCTION" and "a FUNCTION" goes for those that main never comes to. */
    private static void beginLooksAtAllFunctions() {
        begins(false, "fn 0 0; jump 0; push 0; jumpzero 9; jump 0");
        begins(false, "fn 0 0; jump 0; fn 0 0; call 2; jump 0");
        begins(false, "fn 0 0; jump 0; fn 0 0; push 1; defer 1; jump 0");
        begins(false, "fn 0 0; jump 0; fn 0 0; spawn -1; jump 0");
        begins(true, "fn 0 0; jump 0; fn 0 0; call 0; jump 0; fn 1 1; push 1; defer 2; spawn 1; return");
        StrandRuntime x = new StrandRuntime();
        Due.load(x, "fn 0 0; jump 1");
        Due.refusesArgument("begin", () -> x.begin(0));
        Due.is("one more instruction behind a refused begin", x.code(16, 0), 1);
        x.begin(0);
        Due.is("begin is not refused then", x.state(), 1);
    }

    /** Function 0 may be deferred as well; what was there before clear is none. */
    private static void beginForgetsWhatWasCleared() {
        StrandRuntime x = new StrandRuntime();
        Due.load(x, "fn 1 1; jump 0; fn 0 0; push 1; defer 0; jump 0");
        x.begin(1);
        Due.is("function 0 is deferred: state", x.state(), 1);
        String[] refused = {"fn 0 0; push 1; defer 1; jump 0", "fn 0 0; call 1; jump 0", "fn 0 0; spawn 1; jump 0", "fn 0 0; jump 1"};
        for (String text : refused) {
            x.clear();
            Due.load(x, "fn 0 0; jump 0; fn 1 1; jump 0; fn 1 1; jump 0");
            x.clear();
            Due.load(x, text);
            Due.refusesArgument("begin of " + text, () -> x.begin(0));
        }
        x.clear();
        for (int f = 0; f < 32; f++) {
            x.function(f == 0 ? 0 : 1, 1);
            x.code(f == 0 ? 0 : 34, f == 0 ? 0 : 31);
            x.code(16, 0);
        }
        x.begin(0);
        Due.is("function 31 is deferred: state", x.state(), 1);
        x.clear();
        for (int f = 0; f < 32; f++) {
            x.function(f == 0 ? 0 : 1, 1);
            x.code(f == 0 ? 0 : 34, 32);
            x.code(16, 0);
        }
        Due.refusesArgument("begin, as function 32 is deferred", () -> x.begin(0));
    }

    /** "A RUN of FUNCTION f as main (one that goes on is over): GLOBALS are 0, nothing was written, ...". */
    private static void beginEndsWhatGoesOn() {
        StrandRuntime fresh = in("coded");
        fresh.begin(1);
        String due = Due.standing(fresh);
        for (String state : new String[] {"going", "returned", "panicked", "all wait"}) {
            StrandRuntime x = in(state);
            x.begin(1);
            Due.sameText(state + ": begin", Due.standing(x), due);
            Due.is(state + ": nothing was written", x.take(), 0);
            Due.is(state + ": objects there", x.collect(), 0);
        }
        StrandRuntime x = in("going");
        Due.is("written", x.count(3), 2);
        Due.refusesArgument("begin(0)", () -> x.begin(0));
        Due.is("what was written stands behind a refused begin", x.take(), 5);
        Due.is("the run goes on", x.run(1), 1);
    }

    /** A run begun again, or behind clear, is step for step as on a new object, wherever the one before stood. */
    private static void beginAgainIsAsTheFirstTime() {
        String text = "fn 0 1; channel 1; setglobal 0; channel 0; setglobal 1; push 1; spawn 1; push 2; spawn 1; push 3; spawn 2;"
            + " more:; global 1; receive; pop; write; tuple 9; setlocal 0; jump more;"
            + " fn 1 2; more:; tuple 3; double; local 0; set 0; setlocal 1; global 0; local 1; send; jump more;"
            + " fn 1 1; more:; global 0; receive; pop; get 0; local 0; add; setlocal 0; global 1; local 0; send; jump more";
        StringBuilder due = new StringBuilder();
        StrandRuntime fresh = Due.begun(text);
        for (int i = 0; i < 12; i++) {
            fresh.run(7);
            due.append(Due.standing(fresh)).append(fresh.take());
        }
        StrandRuntime x = Due.begun(text);
        for (int steps = 1; steps <= 400; steps += 7) {
            x.run(steps);
            if (steps % 2 == 0) {
                x.clear();
                Due.load(x, text);
            }
            x.begin(0);
            StringBuilder got = new StringBuilder();
            for (int i = 0; i < 12; i++) {
                x.run(7);
                got.append(Due.standing(x)).append(x.take());
            }
            Due.sameText("begin behind " + steps + " steps", got.toString(), due.toString());
        }
    }

    /** Promise 5: "No RUN, no FUNCTIONS (QUANTUM and PACE stay): how many FUNCTIONS there were." */
    private static void clearOfAny() {
        for (String state : STATES) {
            StrandRuntime x = in(state);
            x.quantum(100);
            x.pace(50);
            Due.is(state + ": clear", x.clear(), state.equals("new") || state.equals("cleared") ? 0 : 4);
            StrandRuntime fresh = new StrandRuntime();
            fresh.quantum(100);
            fresh.pace(50);
            Due.sameText(state + ": behind clear", Due.standing(x), Due.standing(fresh));
            Due.is(state + ": clear again", x.clear(), 0);
            Due.is(state + ": nothing to take", x.take(), 0);
            Due.is(state + ": nothing to collect", x.collect(), 0);
            Due.refusesState(state + ": run", () -> x.run(1));
            Due.refusesArgument(state + ": begin", () -> x.begin(0));
            Due.refusesState(state + ": code", () -> x.code(0, 0));
        }
    }

    private static void clearMakesRoom() {
        StrandRuntime x = new StrandRuntime();
        for (int f = 0; f < 32; f++) {
            x.function(0, 0);
        }
        for (int i = 0; i < 1500; i++) {
            x.code(0, 0);
        }
        Due.is("clear of 32", x.clear(), 32);
        Due.is("function", x.function(0, 0), 0);
        for (int i = 0; i < 1500; i++) {
            Due.is("place", x.code(0, 0), i);
        }
        Due.refusesState("instruction 1501", () -> x.code(0, 0));
    }

    /** Promise 6: "n (1 to 100)". */
    private static void quantumFrom1To100() {
        StrandRuntime x = new StrandRuntime();
        int before = 10;
        for (int n = -3; n <= 104; n++) {
            int next = n;
            if (n >= 1 && n <= 100) {
                Due.is("quantum(" + n + ")", x.quantum(n), before);
                before = n;
            } else {
                Due.refusesAndStands("quantum(" + n + ")", IllegalArgumentException.class, x, () -> x.quantum(next));
            }
        }
        for (int n : new int[] {LEAST, MOST}) {
            Due.refusesAndStands("quantum(" + n + ")", IllegalArgumentException.class, x, () -> x.quantum(n));
        }
    }

    /** Promise 7: "n (0 to 50)". */
    private static void paceFrom0To50() {
        StrandRuntime x = new StrandRuntime();
        int before = 5;
        for (int n = -3; n <= 54; n++) {
            int next = n;
            if (n >= 0 && n <= 50) {
                Due.is("pace(" + n + ")", x.pace(n), before);
                before = n;
            } else {
                Due.refusesAndStands("pace(" + n + ")", IllegalArgumentException.class, x, () -> x.pace(next));
            }
        }
        for (int n : new int[] {LEAST, MOST}) {
            Due.refusesAndStands("pace(" + n + ")", IllegalArgumentException.class, x, () -> x.pace(n));
        }
    }

    /** Promise 8: "n (1 to 1000) STEPS", "IllegalArgumentException for another n" first. */
    private static void runFrom1To1000() {
        StrandRuntime x = Due.begun("fn 0 0; jump 0");
        int steps = 0;
        for (int n : new int[] {LEAST, -1, 0, 1, 2, 999, 1000, 1001, MOST}) {
            if (n >= 1 && n <= 1000) {
                Due.is("run(" + n + ")", x.run(n), n);
                steps += n;
            } else {
                Due.refusesAndStands("run(" + n + ")", IllegalArgumentException.class, x, () -> x.run(n));
            }
            Due.is("steps", x.count(0), steps);
        }
        for (String state : STATES) {
            StrandRuntime y = in(state);
            Due.refusesArgument(state + ": run(0)", () -> y.run(0));
            Due.refusesArgument(state + ": run(1001)", () -> y.run(1001));
            if (!state.equals("going")) {
                Due.refusesState(state + ": run(1)", () -> y.run(1));
                Due.refusesState(state + ": run(1000)", () -> y.run(1000));
            }
        }
    }

    /** "fewer if the RUN is over (by the last of them): how many". */
    private static void runEndsWithTheRun() {
        String[] texts = {"fn 0 0; push 1; pop; push 7; return", "fn 0 0; push 1; pop; push 7; panic",
            "fn 0 0; push 1; pop; nil; receive; return", "fn 0 0; push 1; pop; push 1; add; return"};
        int[] due = {2, 3, 4, 3};
        for (int i = 0; i < texts.length; i++) {
            StrandRuntime x = Due.begun(texts[i]);
            Due.is(texts[i] + ": one fewer", x.run(3), 3);
            Due.is(texts[i] + ": goes on", x.state(), 1);
            Due.is(texts[i] + ": the last one", x.run(1), 1);
            Due.is(texts[i] + ": over", x.state(), due[i]);
            Due.is(texts[i] + ": steps", x.count(0), 4);
            x.begin(0);
            Due.is(texts[i] + ": as many as there are", x.run(4), 4);
            x.begin(0);
            Due.is(texts[i] + ": one more", x.run(5), 4);
            x.begin(0);
            Due.is(texts[i] + ": many more", x.run(1000), 4);
            Due.is(texts[i] + ": over", x.state(), due[i]);
        }
    }

    /** Promise 9. */
    private static void states() {
        int[] due = {0, 0, 0, 1, 2, 3, 4};
        for (int i = 0; i < STATES.length; i++) {
            Due.is(STATES[i] + ": state", in(STATES[i]).state(), due[i]);
        }
    }

    /** Promise 10: "0 without". */
    private static void takeWithout() {
        for (String state : STATES) {
            StrandRuntime x = in(state);
            int kept = x.count(3);
            for (int i = 0; i < kept; i++) {
                x.take();
                Due.is(state + ": left", x.count(3), kept - 1 - i);
            }
            Due.is(state + ": take without", x.take(), 0);
            Due.is(state + ": still none", x.count(3), 0);
        }
        Due.is("a run that is over: take", in("returned").take(), 5);
    }

    /** "(2000 are kept; more are lost.)" */
    private static void takeOf2000() {
        StrandRuntime x = Due.begun("fn 0 1; local 0; push 1; add; double; setlocal 0; write; jump 0");
        // The number n is written by step 7 n - 1.
        for (int i = 0; i < 13; i++) {
            x.run(1000);
        }
        x.run(992);
        Due.is("before the last that is kept", x.count(3), 1999);
        x.run(7);
        Due.is("the last that is kept", x.count(3), 2000);
        x.run(7);
        Due.is("the first that is lost", x.count(3), 2000);
        Due.is("take", x.take(), 1);
        Due.is("one less", x.count(3), 1999);
        x.run(7);
        Due.is("place for one more", x.count(3), 2000);
        x.run(7);
        Due.is("and no other", x.count(3), 2000);
        for (int i = 2; i <= 2000; i++) {
            Due.is("take", x.take(), i);
        }
        Due.is("2001 is lost, 2002 is kept", x.take(), 2002);
        Due.is("none", x.count(3), 0);
        x.run(7);
        Due.is("2003 is lost, 2004 is next", x.take(), 2004);
    }

    /** Promise 11: "IndexOutOfBoundsException if s is not 0 to 15", which comes first. */
    private static void strandArguments() {
        for (String state : STATES) {
            StrandRuntime x = in(state);
            for (int s : new int[] {LEAST, -1, 16, 17, MOST}) {
                for (int what : new int[] {LEAST, -1, 0, 6, 7, MOST}) {
                    Due.refusesIndex(state + ": strand(" + s + ", " + what + ")", () -> x.strand(s, what));
                }
            }
            for (int s : new int[] {0, 1, 15}) {
                for (int what : new int[] {LEAST, -1, 7, 8, MOST}) {
                    Due.refusesArgument(state + ": strand(" + s + ", " + what + ")", () -> x.strand(s, what));
                }
                for (int what = 1; what <= 5 && x.strand(s, 1) == 0; what++) {
                    Due.is(state + ": strand(" + s + ", " + what + ") without a frame", x.strand(s, what), 0);
                }
            }
            for (int what = 0; what <= 6; what++) {
                Due.is(state + ": strand(15, " + what + "), which never was", x.strand(15, what), 0);
            }
        }
    }

    /** "6: with what it panicked (the low 32 bits), or, behind a return, what was returned (0 for REFERENCES)". */
    private static void strandsLowBits() {
        String two32 = "push 65536; double; mul; ";
        String two31 = "push 65536; push 32768; mul; ";
        String[] numbers = {"push 0", "push -1", "push 2147483647", "push -2147483648", two31 + "pop; " + two31 + "push 0; add",
            two32 + "push 0; add", two32 + "push 1; add", two32 + "push 1; sub", "push 0; " + two31 + "sub; push 1; sub"};
        int[] due = {0, -1, MOST, LEAST, LEAST, 0, 1, -1, MOST};
        for (int i = 0; i < numbers.length; i++) {
            StrandRuntime returned = Due.ran("fn 0 0; " + numbers[i] + "; return");
            Due.is("returned " + numbers[i], returned.strand(0, 6), due[i]);
            Due.is("returned " + numbers[i], returned.strand(0, 0), 5);
            StrandRuntime panicked = Due.ran("fn 0 0; " + numbers[i] + "; panic");
            Due.is("panicked " + numbers[i], panicked.strand(0, 6), due[i]);
            Due.is("panicked " + numbers[i], panicked.strand(0, 0), 6);
        }
        for (String reference : new String[] {"nil", "tuple 3", "channel 2"}) {
            Due.is("returned " + reference, Due.ran("fn 0 0; " + reference + "; return").strand(0, 6), 0);
        }
        StrandRuntime deferring = Due.begun("fn 0 0; push 1; defer 1; push 9; panic; fn 1 1; yield; yield; push 0; return");
        deferring.run(5);
        Due.is("a panic before its deferred calls have ended: the strand did not end", deferring.strand(0, 0), 1);
        Due.is("so there is nothing to tell yet", deferring.strand(0, 6), 0);
        deferring.run(1000);
        Due.is("now there is", deferring.strand(0, 6), 9);
    }

    /** Promises 12 and 13: "IndexOutOfBoundsException if there is none". */
    private static void operandsThatAreThere() {
        StrandRuntime x = new StrandRuntime();
        x.function(0, 0);
        for (int i = 0; i < 16; i++) {
            x.code(0, i);
        }
        x.code(18, 1);
        x.code(19, 0);
        x.function(0, 0);
        x.code(16, 0);
        x.begin(0);
        for (int size = 0; size <= 16; size++) {
            int most = size;
            for (int k = 0; k < size; k++) {
                Due.is("operand " + k + " of " + size, x.operand(0, k), size - 1 - k);
                Due.is("kind " + k + " of " + size, x.kind(0, k), 0);
            }
            for (int k : new int[] {LEAST, -1, most, most + 1, MOST}) {
                Due.refusesAndStands("operand " + k, IndexOutOfBoundsException.class, x, () -> x.operand(0, k));
                Due.refusesAndStands("kind " + k, IndexOutOfBoundsException.class, x, () -> x.kind(0, k));
            }
            if (size < 16) {
                x.run(1);
            }
        }
        for (int s : new int[] {LEAST, -1, 1, 15, 16, MOST}) {
            Due.refusesIndex("operand of strand " + s, () -> x.operand(s, 0));
            Due.refusesIndex("kind of strand " + s, () -> x.kind(s, 0));
        }
        StrandRuntime waits = in("all wait");
        Due.is("who waits has its operands", waits.kind(0, 0), 1);
        Due.is("a reference answers 0", waits.operand(0, 0), 0);
        Due.refusesIndex("and no other", () -> waits.kind(0, 1));
    }

    /** Promise 14: "IllegalArgumentException for others". */
    private static void countArguments() {
        for (String state : STATES) {
            StrandRuntime x = in(state);
            for (int what : new int[] {LEAST, -1, 8, 9, 15, 19, 36, 37, 40, MOST}) {
                Due.refusesArgument(state + ": count(" + what + ")", () -> x.count(what));
            }
            Due.is(state + ": the strand that runs", x.count(4), state.equals("going") ? 1 : -1);
        }
        StrandRuntime x = Due.ran("fn 0 0; push 3; setglobal 0; push 4; setglobal 15; push 5; setglobal 14; push 0; return");
        Due.is("the first global", x.count(20), 3);
        Due.is("the last global", x.count(35), 4);
        Due.is("the last but one", x.count(34), 5);
    }

    /** "20 + g: NUMBER of GLOBAL g (low 32 bits), 0 if it is a REFERENCE". */
    private static void countsLowBits() {
        StrandRuntime x = Due.ran("fn 0 0; push 65536; double; mul; setglobal 0; push 65536; push 32768; mul; setglobal 1;"
            + " global 0; push 1; sub; setglobal 2; push -2147483648; setglobal 3; global 0; push 7; add; setglobal 4;"
            + " nil; setglobal 5; tuple 0; setglobal 6; channel 0; setglobal 7; push 0; return");
        int[] due = {0, LEAST, -1, LEAST, 7, 0, 0, 0, 0};
        for (int g = 0; g < due.length; g++) {
            Due.is("global " + g, x.count(20 + g), due[g]);
        }
    }

    private static long sum(long... items) {
        long sum = 7;
        for (int g = 0; g < items.length; g++) {
            sum = 31 * sum + items[g];
        }
        return sum;
    }

    /** Promise 15: "From 7 on": it wraps around, and a number counts with all its 64 bits. */
    private static void digestOfNothingAndNumbers() {
        long nothing = sum(0, 0, 0, 0, 0, 0, 0, 0, 0, 0, 0, 0, 0, 0, 0, 0);
        Due.is("new", new StrandRuntime().digest(), nothing);
        Due.is("coded", in("coded").digest(), nothing);
        Due.is("cleared", in("cleared").digest(), nothing);
        StrandRuntime x = Due.ran("fn 0 0; push 65536; double; mul; double; setglobal 0; push -2147483648; mul; setglobal 15;"
            + " nil; setglobal 1; push 1; setglobal 2; push 0; return");
        Due.is("64 bits", x.digest(), sum(4294967296L, 1, 1, 0, 0, 0, 0, 0, 0, 0, 0, 0, 0, 0, 0, Long.MIN_VALUE));
    }

    /** "of a TUPLE 3, how many, then its VALUES; of a CHANNEL 4, how many it holds, then those from the first". */
    private static void digestOfEmptyAndFull() {
        StrandRuntime x = Due.ran("fn 0 1; tuple 0; setglobal 0; channel 0; setglobal 1; channel 8; setglobal 2; global 0; setglobal 3;"
            + " global 2; setglobal 4; tuple 16; setglobal 5; global 5; push 9; set 15; global 5; global 5; set 0; push 0; return");
        Due.is("empty ones, one met again, and the largest", x.digest(), sum(3, 0, 4, 0, 4, 0, 2, 1, 2, 3,
            3, 16, 2, 4, 0, 0, 0, 0, 0, 0, 0, 0, 0, 0, 0, 0, 0, 0, 9, 0, 0, 0, 0, 0, 0, 0, 0, 0, 0));
        // Eight are held; three are received and three more sent, and one waits to send a ninth.
        StrandRuntime y = Due.ran("fn 0 1; channel 8; setglobal 15; more:; global 15; local 0; send; local 0; push 1; add; double;"
            + " setlocal 0; push 8; less; jumpzero on; jump more; on:; global 15; receive; pop; pop; global 15; receive; pop; pop;"
            + " global 15; receive; pop; pop; global 15; push 8; send; global 15; push 9; send; global 15; push 10; send;"
            + " global 15; push 11; send; push 0; return");
        Due.is("all wait", y.state(), 4);
        Due.is("full, from the first", y.digest(), sum(0, 0, 0, 0, 0, 0, 0, 0, 0, 0, 0, 0, 0, 0, 0,
            4, 8, 3, 4, 5, 6, 7, 8, 9, 10));
    }

    /** Promises 16 and 17, where there is nothing, and in each state. */
    private static void collectOfNothing() {
        for (String state : STATES) {
            StrandRuntime x = in(state);
            Due.is(state + ": collect", x.collect(), x.count(5));
            String before = Due.standing(x);
            Due.is(state + ": collect again", x.collect(), x.count(5));
            Due.sameText(state + ": behind collect", Due.standing(x), before);
            Due.is(state + ": check", x.check(), 0);
        }
        Due.is("new: collect", new StrandRuntime().collect(), 0);
    }

    private static int group(String state) {
        switch (state) {
            case "new": case "cleared": return 0;
            case "coded": return 1;
            case "going": return 2;
            default: return 3;
        }
    }

    /** What is due without functions, with functions, while a run goes on, and when it is over: - is not refused. */
    private static void refused(String due, String name, Consumer<StrandRuntime> call) {
        for (String state : STATES) {
            char letter = due.charAt(group(state));
            if (letter == '-') {
                continue;
            }
            StrandRuntime x = in(state);
            Class<? extends RuntimeException> thrown = letter == 'A' ? IllegalArgumentException.class
                : letter == 'S' ? IllegalStateException.class : IndexOutOfBoundsException.class;
            Due.refusesAndStands(state + ": " + name, thrown, x, () -> call.accept(x));
            Due.sameText(state + ": what comes behind " + name, afterwards(x), afterwards(in(state)));
        }
    }

    /** What an object comes to: its run goes on, or, if there is none, gets one more function, and begins. */
    private static String afterwards(StrandRuntime x) {
        StringBuilder all = new StringBuilder();
        if (x.state() == 0) {
            int f = x.function(0, 0);
            all.append(f).append(' ').append(x.code(16, 0)).append(' ');
            x.begin(f);
            x.run(3);
        } else if (x.state() == 1) {
            all.append(x.run(1000)).append(' ');
        }
        all.append(Due.standing(x));
        for (int i = 0; i < 4; i++) {
            all.append(' ').append(x.take());
        }
        return all.append(' ').append(x.collect()).append(' ').append(x.clear()).toString();
    }

    /** "A call that throws changes nothing but what is said there." */
    private static void refusedInEachState() {
        refused("AAAA", "function(-1, 0)", x -> x.function(-1, 0));
        refused("AAAA", "function(5, 5)", x -> x.function(5, 5));
        refused("AAAA", "function(2, 1)", x -> x.function(2, 1));
        refused("AAAA", "function(0, 13)", x -> x.function(0, 13));
        refused("--SS", "function(0, 0)", x -> x.function(0, 0));
        refused("AAAA", "code(-1, 0)", x -> x.code(-1, 0));
        refused("AAAA", "code(37, 0)", x -> x.code(37, 0));
        refused("S-SS", "code(0, 0)", x -> x.code(0, 0));
        refused("SASS", "code(2, 0)", x -> x.code(2, 0));
        refused("SASS", "code(4, 16)", x -> x.code(4, 16));
        refused("SASS", "code(21, 17)", x -> x.code(21, 17));
        refused("SASS", "code(31, 8)", x -> x.code(31, 8));
        refused("AAAA", "begin(-1)", x -> x.begin(-1));
        refused("AAAA", "begin(0)", x -> x.begin(0));
        refused("AAAA", "begin(4)", x -> x.begin(4));
        refused("AAAA", "quantum(0)", x -> x.quantum(0));
        refused("AAAA", "quantum(101)", x -> x.quantum(101));
        refused("AAAA", "pace(-1)", x -> x.pace(-1));
        refused("AAAA", "pace(51)", x -> x.pace(51));
        refused("AAAA", "run(0)", x -> x.run(0));
        refused("AAAA", "run(1001)", x -> x.run(1001));
        refused("SS-S", "run(1)", x -> x.run(1));
        refused("XXXX", "strand(-1, 0)", x -> x.strand(-1, 0));
        refused("XXXX", "strand(16, 7)", x -> x.strand(16, 7));
        refused("AAAA", "strand(0, 7)", x -> x.strand(0, 7));
        refused("AAAA", "strand(15, -1)", x -> x.strand(15, -1));
        refused("XXXX", "operand(0, 16)", x -> x.operand(0, 16));
        refused("XXXX", "operand(16, 0)", x -> x.operand(16, 0));
        refused("XXXX", "kind(0, -1)", x -> x.kind(0, -1));
        refused("XXXX", "kind(-1, 0)", x -> x.kind(-1, 0));
        refused("AAAA", "count(8)", x -> x.count(8));
        refused("AAAA", "count(36)", x -> x.count(36));
    }
}
