/** Promises 1 to 7: a new object, function, code, begin, clear, quantum, pace. */
public final class SetupTest {
    private SetupTest() {
    }

    public static void main(String[] args) {
        newObject();
        function();
        codeRefuses();
        codeArguments();
        codeIsFull();
        begin();
        beginRefuses();
        beginAgain();
        clear();
        quantumAndPace();
        Due.end("SetupTest");
    }

    private static void newObject() {
        StrandRuntime x = new StrandRuntime();
        Due.is("state", x.state(), 0);
        Due.is("take", x.take(), 0);
        for (int what = 0; what < 8; what++) {
            Due.is("count " + what, x.count(what), what == 4 ? -1 : 0);
        }
        for (int g = 0; g < 16; g++) {
            Due.is("global " + g, x.count(20 + g), 0);
        }
        for (int s = 0; s < 16; s++) {
            for (int what = 0; what < 7; what++) {
                Due.is("strand " + s + " " + what, x.strand(s, what), 0);
            }
        }
        Due.is("digest", x.digest(), -3594900192943074809L);
        Due.is("collect", x.collect(), 0);
        Due.is("check", x.check(), 0);
        Due.refusesState("run without a run", () -> x.run(1));
        Due.refusesState("code without a function", () -> x.code(0, 0));
        Due.refusesArgument("begin without a function", () -> x.begin(0));
        Due.is("clear of nothing", x.clear(), 0);
        Due.is("quantum at first", x.quantum(10), 10);
        Due.is("pace at first", x.pace(5), 5);
    }

    private static void function() {
        StrandRuntime x = new StrandRuntime();
        int[][] refused = {{-1, 0}, {5, 5}, {0, 13}, {0, -1}, {3, 2}, {4, 13},
            {Integer.MIN_VALUE, 0}, {Integer.MAX_VALUE, Integer.MAX_VALUE}, {0, Integer.MAX_VALUE}};
        for (int[] r : refused) {
            Due.refusesArgument("function(" + r[0] + ", " + r[1] + ")", () -> x.function(r[0], r[1]));
        }
        Due.is("function(0, 0)", x.function(0, 0), 0);
        Due.is("function(4, 4)", x.function(4, 4), 1);
        Due.is("function(4, 12)", x.function(4, 12), 2);
        for (int f = 3; f < 32; f++) {
            Due.is("function", x.function(0, 12), f);
        }
        Due.refusesState("the 33rd function", () -> x.function(0, 0));
        Due.refusesArgument("a 33rd function that is wrong too", () -> x.function(5, 0));
        Due.is("clear", x.clear(), 32);
        Due.load(x, "fn 0 0; push 1; return");
        x.begin(0);
        Due.refusesState("function while a run goes on", () -> x.function(0, 0));
        Due.refusesArgument("wrong function while a run goes on", () -> x.function(0, 13));
        x.run(1000);
        Due.refusesState("function behind a run", () -> x.function(0, 0));
    }

    private static void codeRefuses() {
        StrandRuntime x = new StrandRuntime();
        Due.refusesArgument("code(-1) without a function", () -> x.code(-1, 0));
        Due.refusesArgument("code(37) without a function", () -> x.code(37, 0));
        Due.refusesState("code(2, 99) without a function", () -> x.code(2, 99));
        x.function(0, 0);
        Due.refusesArgument("code(-1)", () -> x.code(-1, 0));
        Due.refusesArgument("code(37)", () -> x.code(37, 0));
        Due.refusesArgument("local of none", () -> x.code(2, 0));
        Due.is("first place", x.code(0, 1), 0);
        Due.is("second place", x.code(19, 0), 1);
        Due.is("next function", x.function(0, 0), 1);
        Due.is("its first place", x.code(0, 1), 0);
        Due.is("its second place", x.code(19, 0), 1);
        x.begin(0);
        Due.refusesArgument("code(37) while a run goes on", () -> x.code(37, 0));
        Due.refusesState("code while a run goes on", () -> x.code(0, 0));
        Due.refusesState("wrong code while a run goes on", () -> x.code(21, 17));
    }

    private static void codeArguments() {
        int[][] ranges = {{2, 0, 2}, {3, 0, 2}, {4, 0, 15}, {5, 0, 15}, {21, 0, 16}, {22, 0, 15}, {23, 0, 15},
            {27, 0, 8}};
        for (int[] r : ranges) {
            StrandRuntime x = new StrandRuntime();
            x.function(2, 3);
            int place = 0;
            for (int a = -3; a < 30; a++) {
                int arg = a;
                if (a >= r[1] && a <= r[2]) {
                    Due.is("code(" + r[0] + ", " + a + ")", x.code(r[0], a), place);
                    place++;
                } else {
                    Due.refusesArgument("code(" + r[0] + ", " + a + ")", () -> x.code(r[0], arg));
                }
            }
            Due.refusesArgument("code of the least", () -> x.code(r[0], Integer.MIN_VALUE));
            Due.refusesArgument("code of the most", () -> x.code(r[0], Integer.MAX_VALUE));
        }
        StrandRuntime x = new StrandRuntime();
        x.function(0, 0);
        int place = 0;
        for (int a = -3; a < 20; a++) {
            int arg = a;
            if (a >= 1 && a <= 4 || a >= 9 && a <= 12) {
                Due.is("code(31, " + a + ")", x.code(31, a), place);
                place++;
            } else {
                Due.refusesArgument("code(31, " + a + ")", () -> x.code(31, arg));
            }
        }
        for (int op : new int[] {0, 1, 6, 9, 16, 17, 18, 19, 20, 24, 25, 26, 28, 29, 30, 32, 33, 34, 35, 36}) {
            Due.is("code(" + op + ", any)", x.code(op, -77), place);
            Due.is("code(" + op + ", any)", x.code(op, Integer.MAX_VALUE), place + 1);
            place += 2;
        }
    }

    private static void codeIsFull() {
        StrandRuntime x = new StrandRuntime();
        int of = 0;
        for (int i = 0; i < 1500; i++) {
            if (i == 700) {
                x.function(0, 1);
                of = 700;
            } else if (i == 0) {
                x.function(0, 0);
            }
            Due.is("place", x.code(i == 699 || i == 1499 ? 16 : 0, i == 1499 ? 799 : 0), i - of);
        }
        Due.refusesState("the 1501st instruction", () -> x.code(0, 0));
        Due.refusesState("a wrong 1501st instruction", () -> x.code(4, 16));
        Due.refusesArgument("a 1501st instruction that is none", () -> x.code(37, 0));
        x.begin(1);
        Due.is("run", x.run(16), 16);
        Due.is("place", x.strand(0, 3), 16);
    }

    private static void begin() {
        StrandRuntime x = new StrandRuntime();
        Due.load(x, "fn 1 1; local 0; return; fn 0 2; push 9; call 0; write; jump 0");
        x.begin(1);
        Due.is("state", x.state(), 1);
        Due.is("steps", x.count(0), 0);
        Due.is("made", x.count(1), 1);
        Due.is("there", x.count(2), 1);
        Due.is("runs", x.count(4), 0);
        Due.is("strand", x.strand(0, 0), 1);
        Due.is("frames", x.strand(0, 1), 1);
        Due.is("function", x.strand(0, 2), 1);
        Due.is("place", x.strand(0, 3), 0);
        Due.refusesArgument("begin(0), with parameters", () -> x.begin(0));
        Due.refusesArgument("begin(2)", () -> x.begin(2));
        Due.refusesArgument("begin(-1)", () -> x.begin(-1));
        x.run(3);
        Due.refusesArgument("begin(0)", () -> x.begin(0));
        Due.is("the run goes on behind a begin that throws", x.count(0), 3);
        Due.is("frames", x.strand(0, 1), 2);
    }

    private static void beginRefuses() {
        String[] refused = {
            "fn 0 0",
            "fn 0 0; push 1",
            "fn 0 0; push 1; return; fn 0 0",
            "fn 0 0; push 1; return; fn 0 0; push 1; write",
            "fn 0 0; push 1; return; pop",
            "fn 0 0; jump 1",
            "fn 0 0; jump -1",
            "fn 0 0; push 0; jumpzero 3; jump 0",
            "fn 0 0; push 0; jumpzero -1; jump 0",
            "fn 0 0; push 1; return; fn 0 0; jump 1",
            "fn 0 0; call 1; return",
            "fn 0 0; call -1; return",
            "fn 0 0; spawn 1; jump 0",
            "fn 0 0; spawn -1; jump 0",
            "fn 0 0; push 1; defer 0; jump 0",
            "fn 0 0; push 1; defer 1; jump 0",
            "fn 0 0; push 1; defer -1; jump 0",
            "fn 0 0; push 1; defer 1; jump 0; fn 2 2; push 1; return",
            "fn 1 1; push 1; return"};
        for (String text : refused) {
            StrandRuntime x = new StrandRuntime();
            Due.load(x, text);
            Due.refusesArgument("begin(0) of " + text, () -> x.begin(0));
            Due.is("state", x.state(), 0);
        }
        String[] taken = {
            "fn 0 0; jump 0", "fn 0 0; push 1; return", "fn 0 0; push 1; panic",
            "fn 0 0; push 0; jumpzero 2; jump 0", "fn 0 0; call 0; return",
            "fn 0 0; push 1; defer 1; jump 0; fn 1 1; push 1; return"};
        for (String text : taken) {
            StrandRuntime x = new StrandRuntime();
            Due.load(x, text);
            x.begin(0);
            Due.is("state of " + text, x.state(), 1);
        }
        StrandRuntime x = new StrandRuntime();
        Due.load(x, "fn 0 0; jump 5");
        Due.refusesArgument("begin", () -> x.begin(0));
        Due.is("a function behind a begin that throws", x.function(0, 0), 1);
    }

    private static void beginAgain() {
        StrandRuntime x = Due.begun("fn 0 1; tuple 3; setglobal 2; push 7; setglobal 3; push 8; write; spawn 1;"
            + " push 0; return; fn 0 0; nil; receive; jump 0");
        x.run(9);
        Due.is("global", x.count(23), 7);
        Due.is("objects", x.count(7), 1);
        Due.is("strand 1", x.strand(1, 0), 1);
        x.begin(0);
        for (int what = 0; what < 8; what++) {
            Due.is("count " + what, x.count(what), what == 1 || what == 2 ? 1 : 0);
        }
        Due.is("global", x.count(23), 0);
        Due.is("take", x.take(), 0);
        Due.is("strand 1", x.strand(1, 0), 0);
        Due.is("digest", x.digest(), new StrandRuntime().digest());
        Due.is("collect", x.collect(), 0);
        Due.is("check", x.check(), 0);
        Due.is("run", x.run(100), 9);
        Due.is("state", x.state(), 2);
        x.begin(0);
        Due.is("state", x.state(), 1);
    }

    private static void clear() {
        StrandRuntime x = Due.ran("fn 0 1; tuple 3; setglobal 2; push 7; setglobal 3; push 8; write; push 9; return;"
            + "fn 0 0; jump 0");
        x.quantum(33);
        x.pace(44);
        Due.is("clear", x.clear(), 2);
        Due.is("state", x.state(), 0);
        for (int what = 0; what < 8; what++) {
            Due.is("count " + what, x.count(what), what == 4 ? -1 : 0);
        }
        Due.is("global", x.count(23), 0);
        Due.is("take", x.take(), 0);
        Due.is("strand", x.strand(0, 0), 0);
        Due.is("returned", x.strand(0, 6), 0);
        Due.refusesState("run", () -> x.run(1));
        Due.refusesState("code", () -> x.code(0, 0));
        Due.is("clear again", x.clear(), 0);
        Due.is("quantum stays", x.quantum(1), 33);
        Due.is("pace stays", x.pace(1), 44);
        Due.is("function", x.function(0, 0), 0);
        Due.is("code", x.code(16, 0), 0);
        x.begin(0);
        Due.is("state", x.state(), 1);
    }

    private static void quantumAndPace() {
        StrandRuntime x = new StrandRuntime();
        for (int n : new int[] {0, -1, 101, Integer.MIN_VALUE, Integer.MAX_VALUE}) {
            Due.refusesArgument("quantum(" + n + ")", () -> x.quantum(n));
        }
        for (int n : new int[] {-1, 51, Integer.MIN_VALUE, Integer.MAX_VALUE}) {
            Due.refusesArgument("pace(" + n + ")", () -> x.pace(n));
        }
        Due.is("quantum(1)", x.quantum(1), 10);
        Due.is("quantum(100)", x.quantum(100), 1);
        Due.is("quantum(10)", x.quantum(10), 100);
        Due.is("pace(0)", x.pace(0), 5);
        Due.is("pace(50)", x.pace(50), 0);
        Due.is("pace(5)", x.pace(5), 50);
    }
}
