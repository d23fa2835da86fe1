import java.util.Random;

/** All promises at once: programs drawn from fixed seeds, each answer compared with the Model's. */
public final class FuzzTest {
    private static final int PROGRAMS = 4000;

    private final Random random;
    private final StrandRuntime x = new StrandRuntime();
    private final Model model = new Model();
    private final String name;
    private final int functions;
    private final int[] params;
    private final int[] locals;
    private final boolean lasting;
    private final boolean heapy;
    private int place;
    private int self;

    private FuzzTest(long seed) {
        // Seeds that are near to one another draw alike at first.
        random = new Random(seed * 0x9E3779B97F4A7C15L);
        name = "program " + seed;
        lasting = random.nextInt(2) == 0;
        heapy = lasting && random.nextInt(4) == 0;
        functions = (lasting ? 4 : 3) + random.nextInt(5);
        params = new int[functions];
        locals = new int[functions];
    }

    public static void main(String[] args) {
        int programs = args.length > 0 ? Integer.parseInt(args[0]) : PROGRAMS;
        int[] states = new int[5];
        for (int seed = 0; seed < programs; seed++) {
            FuzzTest test = new FuzzTest(seed);
            test.build();
            test.compareRun();
            states[test.x.state()]++;
        }
        System.out.println("runs that go on " + states[1] + ", returned " + states[2] + ", panicked " + states[3]
            + ", wait " + states[4]);
        Due.end("FuzzTest");
    }

    private void build() {
        for (int f = 1; f < functions; f++) {
            params[f] = f <= 2 ? 1 : random.nextInt(3);
            locals[f] = params[f] + 1 + random.nextInt(3);
        }
        locals[0] = 3;
        for (int f = 0; f < functions; f++) {
            x.function(params[f], locals[f]);
            model.function(params[f], locals[f]);
            self = f;
            place = 0;
            if (f == 0) {
                prepareGlobals();
            }
            if (f == 0 && lasting) {
                // Main itself never waits or panics, so that the run goes on and on.
                emit("push", 0);
                emit("call", 1);
                emit("pop", 0);
                emit("yield", 0);
                emit("jump", place - 4);
                continue;
            }
            if (f <= 2 && lasting) {
                lastingPart(f);
                continue;
            }
            if (f == 0) {
                for (int i = any(12); i > 0; i--) {
                    callOf("spawn", 1 + any(functions - 1));
                }
            }
            int parts = 3 + random.nextInt(14);
            for (int i = 0; i < parts; i++) {
                part();
            }
            finishFunction();
        }
        x.begin(0);
        model.begin(0);
    }

    /** Function 1 is what main calls over and over, and 2, which it defers, recovers. */
    private void lastingPart(int f) {
        if (f == 1) {
            emit("push", 0);
            emit("defer", 2);
            int parts = heapy ? 15 + any(40) : 5 + any(20);
            for (int i = 0; i < parts; i++) {
                if (heapy) {
                    heapPart();
                } else if (any(3) == 0) {
                    callOf("spawn", 3 + any(functions - 3));
                } else if (any(3) == 0) {
                    select(8);
                } else if (any(8) == 0) {
                    emit("channel", any(3));
                    emit("setglobal", any(5));
                } else {
                    quietPart(14 + any(7));
                }
            }
        } else {
            emit("recover", 0);
            emit("pop", 0);
            for (int i = heapy ? any(6) : 0; i > 0; i--) {
                emit("tuple", 3);
                emit("setglobal", 5 + any(11));
            }
        }
        emit("push", f);
        emit("return", 0);
    }

    /** Makes, binds and loses many objects: globals 5 to 15 are tuples whose value 0 is a tuple or the number 0. */
    private void heapPart() {
        int g = 5 + any(11);
        switch (any(12)) {
            case 0: case 1: case 2: case 3:
                emit("tuple", 3 + any(14)); emit("double", 0); emit("global", 5 + any(11)); emit("set", 0);
                emit("setglobal", g); break;
            case 4:
                emit("global", g); emit("global", any(16)); emit("set", 1 + any(2)); break;
            case 5:
                emit("global", g); emit("global", 5 + any(11)); emit("set", 0); break;
            case 6: case 7:
                emit("global", g); emit("get", 0); emit("double", 0); emit("jumpzero", place + 3);
                emit("setglobal", 5 + any(11)); emit("jump", place + 2); emit("pop", 0); break;
            case 8:
                emit("channel", 8); emit("double", 0); emit("global", any(16)); emit("send", 0);
                emit("setglobal", any(5)); break;
            case 9:
                emit("global", any(5)); emit("push", any(2)); emit("global", any(16)); emit("select", 9);
                emit("pop", 0); emit("setlocal", 0); break;
            case 10:
                emit("tuple", 3); emit("setglobal", g); break;
            default:
                if (any(10) == 0) {
                    callOf("spawn", 1 + any(functions - 1));
                } else {
                    emit("global", any(16)); emit("setlocal", any(locals[self]));
                }
                break;
        }
    }

    private void finishFunction() {
        int how = random.nextInt(10);
        if (how < 4) {
            emit("jump", any(Math.max(1, place)));
        } else if (how < 9) {
            pushSome();
            emit("return", 0);
        } else {
            emit("push", random.nextInt(9) - 4);
            emit("panic", 0);
        }
    }

    /** Globals 0 to 4 are channels, 5 to 9 tuples. */
    private void prepareGlobals() {
        for (int g = 0; g < 5; g++) {
            emit("channel", random.nextInt(3) == 0 ? random.nextInt(4) : 0);
            emit("setglobal", g);
        }
        for (int g = 5; g < (heapy ? 16 : 10); g++) {
            emit("tuple", heapy ? 3 : 1 + random.nextInt(6));
            emit("setglobal", g);
        }
    }

    private void emit(String op, int a) {
        emit(Due.op(op), a);
    }

    private void emit(int op, int a) {
        Due.is(name + " place", x.code(op, a), model.code(op, a));
        place++;
    }

    private void pushSome() {
        switch (random.nextInt(8)) {
            case 0: emit("nil", 0); break;
            case 1: case 2: emit("local", random.nextInt(locals[self])); break;
            case 3: emit("global", random.nextInt(12)); break;
            case 4: emit("tuple", random.nextInt(17)); break;
            default: emit("push", random.nextInt(7) - 2); break;
        }
    }

    private void pushNumber() {
        if (any(20) == 0) {
            pushSome();
        } else {
            emit("push", any(9) - 4);
        }
    }

    private void pushChannel() {
        if (random.nextInt(25) == 0) {
            pushSome();
        } else {
            emit("global", random.nextInt(5));
        }
    }

    private void callOf(String op, int f) {
        for (int i = 0; i < params[f]; i++) {
            pushSome();
        }
        emit(op, f);
    }

    private void part() {
        switch (random.nextInt(24)) {
            case 0: pushNumber(); pushNumber(); emit(9 + any(6), 0); emit("setlocal", any(locals[self])); break;
            case 1: pushChannel(); pushSome(); emit("send", 0); break;
            case 2: pushChannel(); pushSome(); emit("send", 0); break;
            case 3: pushChannel(); emit("receive", 0); emit("write", 0); emit("pop", 0); break;
            case 4: pushChannel(); emit("receive", 0); emit("pop", 0); emit("setlocal", any(locals[self])); break;
            case 5: select(any(4) == 0 ? 8 : 0); break;
            case 6: select(0); break;
            case 7: callOf("spawn", 1 + any(functions - 1)); break;
            case 8: callOf("call", 1 + any(functions - 1)); dropOrKeep(); break;
            case 9: pushSome(); emit("defer", 1 + any(2)); break;
            case 10: pushSome(); emit("defer", 1 + any(2)); break;
            case 11: emit("recover", 0); dropOrKeep(); break;
            case 12: pushSome(); emit("jumpzero", any(Math.max(1, place))); break;
            case 13: raw(); break;
            default: quietPart(14 + any(10)); break;
        }
    }

    /** What never waits. */
    private void quietPart(int which) {
        switch (which) {
            case 14: panicOrNot(); break;
            case 15: emit("yield", 0); break;
            case 16: emit("push", any(100)); emit("write", 0); break;
            case 17: emit("global", 5 + any(5)); pushSome(); emit("set", any(6)); break;
            case 18: closeSome(); break;
            case 19: emit("global", 5 + any(5)); emit("get", any(4)); emit("setlocal", any(locals[self])); break;
            case 20: emit("tuple", any(17)); emit("double", 0); emit("global", 5 + any(5)); emit("set", 0);
                emit("setglobal", 5 + any(5)); break;
            case 21: pushSome(); emit("setglobal", any(40) == 0 ? any(10) : 10 + any(6)); break;
            case 22: emit("global", 5 + any(5)); emit("push", any(6)); pushSome(); emit("setat", 0); break;
            default: emit("global", 5 + any(5)); emit("push", any(6)); emit("getat", 0); emit("setglobal", 10); break;
        }
    }

    private int any(int n) {
        return random.nextInt(n);
    }

    private void dropOrKeep() {
        switch (any(4)) {
            case 0: break;
            case 1: emit("write", 0); break;
            default: emit("pop", 0); break;
        }
    }

    private void panicOrNot() {
        if (any(4) == 0) {
            pushNumber();
            emit("panic", 0);
        }
    }

    private void closeSome() {
        if (any(3) == 0) {
            pushChannel();
            emit("close", 0);
            if (any(2) == 0) {
                emit("channel", any(3));
                emit("setglobal", any(5));
            }
        }
    }

    private void select(int waiting) {
        int cases = 1 + any(4);
        for (int i = 0; i < cases; i++) {
            pushChannel();
            emit("push", any(2));
            pushSome();
        }
        emit("select", cases + waiting);
        emit(any(2) == 0 ? "write" : "pop", 0);
        emit("setlocal", any(locals[self]));
    }

    /** Any instruction at all, wherever it stands. */
    private void raw() {
        int op = random.nextInt(37);
        switch (op) {
            case 2: case 3: emit(op, any(locals[self])); break;
            case 4: case 5: emit(op, op == 5 ? 10 + any(6) : any(16)); break;
            case 16: case 17: emit(op, any(Math.max(1, place))); break;
            case 18: case 20: emit(op, any(functions)); break;
            case 34: emit(op, 1 + any(2)); break;
            case 21: emit(op, any(17)); break;
            case 22: case 23: emit(op, any(16)); break;
            case 27: emit(op, any(9)); break;
            case 31: emit(op, 1 + any(4) + 8 * any(2)); break;
            default: emit(op, random.nextInt()); break;
        }
    }

    private void compareRun() {
        int quantum = 10;
        for (int i = 0; i < 25; i++) {
            if (any(4) == 0) {
                int next = 1 + any(any(2) == 0 ? 4 : 100);
                Due.is(name + " quantum", x.quantum(next), quantum);
                quantum = next;
                model.quantum = next;
            }
            if (any(3) == 0) {
                x.pace(any(51));
            }
            if (model.state == 1) {
                int n = heapy ? 1 + any(1000) : any(4) == 0 ? 1 + any(400) : 1 + any(20);
                Due.is(name + " run", x.run(n), model.run(n));
            } else {
                Due.refusesState(name + " run", () -> x.run(1));
            }
            compare();
            if (any(8) == 0) {
                Due.is(name + " collect", x.collect(), model.count(5));
                compare();
            }
            for (int takes = any(5); takes > 0; takes--) {
                Due.is(name + " take", x.take(), model.take());
            }
            if (model.state != 1 && any(3) == 0) {
                return;
            }
        }
    }

    private void compare() {
        Due.is(name + " state", x.state(), model.state);
        Due.is(name + " check", x.check(), 0);
        for (int what = 0; what < 36; what++) {
            if (what < 8 || what >= 20) {
                Due.is(name + " count " + what, x.count(what), model.count(what));
            }
        }
        Due.is(name + " digest", x.digest(), model.digest());
        for (int s = 0; s < 16; s++) {
            int strand = s;
            for (int what = 0; what < 7; what++) {
                Due.is(name + " strand " + s + " " + what, x.strand(s, what), model.strand(s, what));
            }
            int operands = model.strand(s, 4);
            for (int k = 0; k < operands; k++) {
                Due.is(name + " operand " + s + " " + k, x.operand(s, k), model.operand(s, k));
                Due.is(name + " kind " + s + " " + k, x.kind(s, k), model.kind(s, k));
            }
            Due.refusesIndex(name + " operand", () -> x.operand(strand, operands));
            Due.refusesIndex(name + " kind", () -> x.kind(strand, operands));
        }
    }
}
