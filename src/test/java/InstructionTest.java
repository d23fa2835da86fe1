/** The instructions, each with what it does and each way in which it panics; seen through run, state, take and strand. */
public final class InstructionTest {
    private static final String HELPERS = "; push 0; return"
        + "; fn 1 1; local 0; push 1; add; return"
        + "; fn 2 3; local 0; push 10; mul; local 1; add; local 2; add; return"
        + "; fn 0 0; push 77; return"
        + "; fn 1 1; local 0; write; push 0; return";
    private static final String FIFTEEN = repeated("push 5;", 15);
    private static final String SIXTEEN = FIFTEEN + "push 5;";

    private InstructionTest() {
    }

    public static void main(String[] args) {
        moving();
        reckoning();
        comparing();
        jumping();
        calling();
        tuples();
        sizes();
        writing();
        tooFewOperands();
        tooManyOperands();
        justEnoughOperands();
        poppedByPanics();
        Due.end("InstructionTest");
    }

    private static String repeated(String text, int n) {
        return text.repeat(n);
    }

    /** Function 0 with this body; functions 1 to 4 are the helpers. */
    private static StrandRuntime ran(String body) {
        return Due.ran("fn 0 4; " + body + HELPERS);
    }

    private static void writes(String body, long... due) {
        StrandRuntime x = ran(body);
        Due.is(body + ": state", x.state(), 2);
        Due.written(body, x, due);
    }

    private static void panics(String body, int due) {
        StrandRuntime x = ran(body);
        Due.is(body + ": state", x.state(), 3);
        Due.is(body + ": panic", x.strand(0, 6), due);
        Due.is(body + ": strand", x.strand(0, 0), 6);
        Due.is(body + ": frames", x.strand(0, 1), 0);
    }

    private static void moving() {
        writes("push 2147483647; write; push -2147483648; write", 2147483647L, -2147483648L);
        writes("nil; iszero; write", 1);
        writes("local 3; write", 0);
        writes("push 4; setlocal 3; push 5; setlocal 0; local 3; write; local 0; write; local 1; write", 4, 5, 0);
        writes("global 0; write; push 6; setglobal 0; push 7; setglobal 15; global 0; write; global 15; write", 0, 6, 7);
        writes("push 3; push 8; double; write; write; write", 8, 8, 3);
        writes("push 3; push 8; pop; write", 3);
        writes("push 3; push 8; swap; write; write", 3, 8);
        writes("tuple 4; push 8; swap; size; write; write", 4, 8);
        writes("push 8; tuple 4; swap; write; size; write", 8, 4);
    }

    private static void reckoning() {
        writes("push 7; push 3; add; write", 10);
        writes("push 7; push 3; sub; write", 4);
        writes("push 7; push -3; mul; write", -21);
        writes("push 7; push 3; div; write; push -7; push 3; div; write; push 7; push -3; div; write", 2, -2, -2);
        writes("push -7; push -3; div; write; push 0; push 5; div; write", 2, 0);
        String least = "push -2147483648; double; mul; push -2; mul; ";
        writes(least + "write", Long.MIN_VALUE);
        writes(least + "push -1; div; write", Long.MIN_VALUE);
        writes(least + "push 1; sub; write", Long.MAX_VALUE);
        writes(least + "double; add; write", 0);
        panics("push 1; push 0; div", -1);
        panics("push 0; push 0; div", -1);
        panics("nil; push 0; div", -2);
        for (String op : new String[] {"add", "sub", "mul", "div", "less"}) {
            for (String wrong : new String[] {"nil", "tuple 1", "channel 1"}) {
                panics(wrong + "; push 1; " + op, -2);
                panics("push 1; " + wrong + "; " + op, -2);
            }
        }
    }

    private static void comparing() {
        writes("push 3; push 4; less; write; push 4; push 3; less; write; push 4; push 4; less; write", 1, 0, 0);
        writes("push -1; push 0; less; write", 1);
        writes("push 4; push 4; same; write; push 4; push 5; same; write", 1, 0);
        writes("nil; nil; same; write; push 0; nil; same; write; nil; push 0; same; write", 1, 0, 0);
        writes("tuple 0; double; same; write; tuple 0; tuple 0; same; write", 1, 0);
        writes("channel 0; double; same; write; channel 0; channel 0; same; write", 1, 0);
        writes("tuple 0; push 0; same; write; tuple 0; nil; same; write; tuple 0; channel 0; same; write", 0, 0, 0);
        writes("push 0; iszero; write; push 1; iszero; write; push -1; iszero; write", 1, 0, 0);
        writes("nil; iszero; write; tuple 0; iszero; write; channel 0; iszero; write", 1, 0, 0);
    }

    private static void jumping() {
        writes("jump 3; push 1; write; push 2; write", 2);
        writes("push 0; jumpzero 4; push 1; write; push 2; write", 2);
        writes("nil; jumpzero 4; push 1; write; push 2; write", 2);
        writes("push 5; jumpzero 4; push 1; write; push 2; write", 1, 2);
        writes("tuple 0; jumpzero 4; push 1; write; push 2; write", 1, 2);
        writes("push 3; setlocal 0; local 0; jumpzero 11; local 0; write; local 0; push 1; sub; setlocal 0; jump 2",
            3, 2, 1);
    }

    private static void calling() {
        writes("push 4; call 1; write", 5);
        writes("push 9; push 4; push 2; call 2; write; write", 42, 9);
        writes("call 3; write", 77);
        writes("push 5; push 4; spawn 4; write; yield; yield; yield; yield; yield", 5, 4);
        writes("push 8; defer 4; push 1; write", 1, 8);
    }

    private static void tuples() {
        writes("tuple 3; double; push 7; set 2; double; get 2; write; get 0; write", 7, 0);
        writes("tuple 16; double; push 7; set 15; get 15; write", 7);
        writes("tuple 3; setlocal 0; local 0; push 1; push 8; setat; local 0; push 1; getat; write; local 0; push 2;"
            + " getat; write", 8, 0);
        writes("tuple 2; double; tuple 5; set 1; get 1; size; write", 5);
        writes("tuple 2; double; nil; set 1; get 1; iszero; write", 1);
        panics("tuple 3; get 3", -2);
        panics("tuple 0; get 0", -2);
        panics("tuple 3; push 1; set 3", -2);
        panics("tuple 3; push 3; getat", -2);
        panics("tuple 3; push -1; getat", -2);
        panics("tuple 3; push 3; push 1; setat", -2);
        panics("tuple 3; push -1; push 1; setat", -2);
        panics("tuple 3; push 65536; push 65536; mul; getat", -2);
        panics("tuple 3; nil; getat", -2);
        panics("tuple 3; tuple 0; push 1; setat", -2);
        for (String wrong : new String[] {"push 0", "nil", "channel 4"}) {
            panics(wrong + "; get 0", -2);
            panics(wrong + "; push 1; set 0", -2);
            panics(wrong + "; push 0; getat", -2);
            panics(wrong + "; push 0; push 1; setat", -2);
        }
    }

    private static void sizes() {
        writes("tuple 0; size; write; tuple 16; size; write; channel 0; size; write; channel 8; size; write",
            0, 16, 0, 0);
        writes("channel 8; setlocal 0; local 0; push 5; send; local 0; push 6; send; local 0; size; write;"
            + " local 0; receive; pop; write; local 0; size; write", 2, 5, 1);
        panics("push 0; size", -2);
        panics("nil; size", -2);
    }

    private static void writing() {
        panics("nil; write", -2);
        panics("tuple 1; write", -2);
        panics("push 44; panic", 44);
        panics("push 0; panic", 0);
        panics("push -2147483648; double; mul; push 7; add; panic", 7);
        panics("nil; panic", -2);
        panics("tuple 1; panic", -2);
        panics("push 7; panic", 7);
    }

    private static void tooFewOperands() {
        String[] none = {"setlocal 0", "setglobal 0", "double", "pop", "iszero", "jumpzero 0", "call 1", "return",
            "spawn 1", "get 0", "size", "receive", "close", "write", "defer 4", "panic"};
        for (String op : none) {
            panics(op, -3);
        }
        String[] one = {"swap", "add", "sub", "mul", "div", "less", "same", "call 2", "spawn 2", "set 0", "getat", "send"};
        for (String op : one) {
            panics(op, -3);
            panics("push 1; " + op, -3);
            panics("nil; " + op, -3);
        }
        panics("tuple 1; push 0; setat", -3);
        for (int cases = 1; cases <= 4; cases++) {
            panics(repeated("channel 1; push 0; nil;", cases - 1) + "channel 1; push 0; select " + cases, -3);
            panics(repeated("channel 1; push 0; nil;", cases - 1) + "channel 1; push 0; select " + (cases + 8), -3);
        }
    }

    private static void tooManyOperands() {
        String[] more = {"push 1", "nil", "local 0", "global 0", "double", "call 3", "tuple 0", "channel 0", "recover"};
        for (String op : more) {
            panics(SIXTEEN + op, -3);
        }
        // A receiver would push two for one: that is looked at before all else.
        panics(SIXTEEN + "receive", -3);
        panics(FIFTEEN + "channel 0; receive", -3);
        panics(FIFTEEN + "nil; receive", -3);
    }

    private static void justEnoughOperands() {
        for (String op : new String[] {"push 1", "nil", "local 0", "global 0", "double", "call 3", "tuple 0",
            "channel 0", "recover"}) {
            Due.is(op, ran(FIFTEEN + op + "; pop; pop").state(), 2);
        }
        for (String op : new String[] {"swap", "add", "sub", "mul", "div", "less", "same", "iszero", "call 1", "pop"}) {
            Due.is(op, ran(SIXTEEN + op + "; pop").state(), 2);
        }
        Due.is("spawn", ran(SIXTEEN + "spawn 3; pop").state(), 2);
        Due.is("yield", ran(SIXTEEN + "yield; pop").state(), 2);
        writes(SIXTEEN + repeated("pop;", 2) + "channel 1; push 3; send; pop; push 6; write", 6);
        writes(repeated("push 5;", 14) + "channel 1; double; close; receive; add; write", 0);
        writes(repeated("push 5;", 4) + repeated("nil; push 0; nil;", 4) + "select 12; write; write", -1, 0);
    }

    /** Objects that an instruction has popped when it panics are not reached by the deferred call. */
    private static void poppedByPanics() {
        String[][] cases = {
            {"tuple 1; tuple 1; add", "0"}, {"tuple 1; nil; push 4; getat", "1"}, {"tuple 1; get 1", "0"},
            {"tuple 1; push 9; tuple 1; setat", "0"}, {"tuple 1; write", "0"}, {"tuple 1; panic", "0"},
            {"tuple 1; close", "0"}, {"tuple 1; tuple 1; send", "0"}, {"tuple 1; receive", "0"},
            {"tuple 1; tuple 1; send; pop", "0"}, {"tuple 1; add", "0"}, {"tuple 1; tuple 1; setat", "0"},
            {"tuple 1; tuple 1; nil; nil; select 1", "1"}, {"tuple 1; push 0; nil; select 1", "0"},
            {"tuple 1; nil; push 3; write; write", "1"}, {"tuple 1; push 1; push 0; div", "1"}};
        for (String[] c : cases) {
            StrandRuntime x = Due.begun("fn 0 0; push 1; defer 1; " + c[0] + "; push 0; return; fn 1 1; push 0; jump 0");
            for (int i = 0; i < 40 && x.strand(0, 2) == 0; i++) {
                x.run(1);
            }
            Due.is(c[0] + ": function", x.strand(0, 2), 1);
            Due.is(c[0] + ": objects", x.count(5), Integer.parseInt(c[1]));
        }
    }
}
