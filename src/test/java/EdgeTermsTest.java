/**
 * The edges of the document's Terms, sentence by sentence: each limit with what is still allowed and what is
 * too much, strands and their turns, and each instruction with the numbers at which it changes.
 */
public final class EdgeTermsTest {
    private static final String LEAST = "push -2147483648; double; mul; push -2; mul; ";
    private static final String MOST = LEAST + "push 1; sub; ";
    private static final String TWO_32 = "push 65536; double; mul; ";

    private EdgeTermsTest() {
    }

    public static void main(String[] args) {
        numbersWrapAround();
        numbersHave64Bits();
        tuplesOf0To16();
        channelsWithRoomFor0To8();
        functionsUpTo32();
        parametersFrom0To4();
        parametersOfStrands();
        argumentsOfAnyKind();
        localsUpTo12();
        localsAreZeroAtFirst();
        globals16();
        strands16();
        endedStrandsStay();
        leastNumberIsTakenAgain();
        frames30();
        framesOfEachStrand();
        operands16();
        operandsOfEachFrame();
        deferred6();
        deferredOfEachFrame();
        deferTakesOneValue();
        turnsOfEachQuantum();
        yieldAsLastStepOfATurn();
        aloneInTheQueue();
        behindThoseMadeReady();
        firstOfQueueRuns();
        noneReady();
        mainEnds();
        pushes();
        divides();
        compares();
        jumps();
        returnsAnything();
        indexes();
        sizes();
        writes();
        Due.end("EdgeTermsTest");
    }

    private static void writes(String body, long... due) {
        StrandRuntime x = Due.ran("fn 0 4; " + body + "; push 0; return");
        Due.is(body + ": state", x.state(), 2);
        Due.written(body, x, due);
    }

    private static void panics(String body, int due) {
        StrandRuntime x = Due.ran("fn 0 4; " + body + "; push 0; return");
        Due.is(body + ": state", x.state(), 3);
        Due.is(body + ": panic", x.strand(0, 6), due);
    }

    private static void waits(String body) {
        StrandRuntime x = Due.ran("fn 0 4; " + body + "; push 0; return");
        Due.is(body + ": state", x.state(), 4);
    }

    /** "NUMBERS (of 64 bits)". */
    private static void numbersWrapAround() {
        writes(MOST + "push 1; add; write", Long.MIN_VALUE);
        writes(LEAST + "push 1; sub; write", Long.MAX_VALUE);
        writes(LEAST + LEAST + "add; write", 0);
        writes(MOST + MOST + "add; write", -2);
        writes("push 0; " + LEAST + "sub; write", Long.MIN_VALUE);
        writes(MOST + LEAST + "sub; write", -1);
        writes(MOST + MOST + "mul; write", 1);
        writes(LEAST + "push -1; mul; write", Long.MIN_VALUE);
        writes(LEAST + LEAST + "mul; write", 0);
        writes(LEAST + "push -1; div; write", Long.MIN_VALUE);
    }

    private static void numbersHave64Bits() {
        writes(MOST + "write; " + LEAST + "write", Long.MAX_VALUE, Long.MIN_VALUE);
        writes(TWO_32 + "iszero; write; " + TWO_32 + "push 0; same; write", 0, 0);
        writes("push 0; " + TWO_32 + "less; write; " + TWO_32 + "push 0; less; write", 1, 0);
        writes(TWO_32 + "jumpzero 6; push 1; write; push 2; write", 1, 2);
        writes(TWO_32 + "setlocal 0; local 0; setglobal 3; tuple 1; setlocal 1; local 1; global 3; set 0; local 1; get 0; write",
            4294967296L);
        panics("push 1; " + LEAST + "push 0; mul; div", -1);
        writes(TWO_32 + TWO_32 + "div; write", 1);
    }

    /** "a TUPLE (of 0 to 16 VALUES)": of each size the last value is there and the next is not. */
    private static void tuplesOf0To16() {
        for (int n = 0; n <= 16; n++) {
            writes("tuple " + n + "; size; write", n);
            String at = "; push " + n;
            panics("tuple " + n + at + "; getat", -2);
            panics("tuple " + n + at + "; push 1; setat", -2);
            if (n < 16) {
                panics("tuple " + n + "; get " + n, -2);
                panics("tuple " + n + "; push 1; set " + n, -2);
            }
            if (n > 0) {
                String last = "" + (n - 1);
                writes("tuple " + n + "; setlocal 0; local 0; get " + last + "; write; local 0; push 7; set " + last
                    + "; local 0; push " + last + "; getat; write; local 0; push " + last + "; push 8; setat; local 0; get " + last
                    + "; write", 0, 7, 8);
            }
        }
        for (int i = 0; i < 16; i++) {
            StringBuilder body = new StringBuilder("tuple 16; setlocal 0; local 0; push 7; set " + i + ";");
            long[] due = new long[16];
            due[i] = 7;
            for (int k = 0; k < 16; k++) {
                body.append("local 0; get ").append(k).append("; write;");
            }
            writes(body + " push 0; pop", due);
        }
    }

    /** "a CHANNEL (with room for 0 to 8)": as many are held, and the next one waits. */
    private static void channelsWithRoomFor0To8() {
        for (int room = 0; room <= 8; room++) {
            String full = "channel " + room + "; setlocal 0; " + "local 0; push 5; send; ".repeat(room);
            writes(full + "local 0; size; write", room);
            waits(full + "local 0; push 6; send");
            if (room > 0) {
                writes(full + "local 0; receive; pop; pop; local 0; push 6; send; local 0; size; write", room);
            }
        }
    }

    /** "FUNCTIONS 0, 1, .. (at most 32)": the last one can be called, made a strand of, and deferred. */
    private static void functionsUpTo32() {
        StringBuilder text = new StringBuilder("fn 0 0; push 6; call 31; write; push 7; spawn 31; yield; push 8; defer 31;"
            + " push 0; return;");
        for (int f = 1; f < 31; f++) {
            text.append("fn 0 0; jump 0;");
        }
        StrandRuntime x = Due.ran(text + "fn 1 1; local 0; write; push 5; return");
        Due.is("state", x.state(), 2);
        Due.written("function 31", x, 6, 5, 7, 8);
    }

    /** "PARAMETERS (0 to 4)", "(the last one on top)": exactly as many are taken, and one too few is too few. */
    private static void parametersFrom0To4() {
        for (int params = 0; params <= 4; params++) {
            StringBuilder f = new StringBuilder("fn " + params + " 4; ");
            for (int i = 0; i < 4; i++) {
                f.append("local ").append(i).append("; write; ");
            }
            f.append("push 9; return");
            StrandRuntime x = Due.ran("fn 0 0; push 50; push 1; push 2; push 3; push 4; call 1; write; write; push 0; return; " + f);
            long[] due = new long[6];
            for (int i = 0; i < params; i++) {
                due[i] = 5 - params + i;
            }
            due[4] = 9;
            due[5] = params == 4 ? 50 : 4 - params;
            Due.written(params + " parameters", x, due);
            if (params > 0) {
                StrandRuntime y = Due.ran("fn 0 0; " + "push 5; ".repeat(params - 1) + "call 1; jump 0; " + f);
                Due.is("one operand too few for " + params, y.strand(0, 6), -3);
                Due.is("nothing is written", y.count(3), 0);
                StrandRuntime z = Due.ran("fn 0 0; " + "push 5; ".repeat(params - 1) + "spawn 1; jump 0; " + f);
                Due.is("one operand too few for a strand of " + params, z.strand(0, 6), -3);
                Due.is("no strand is made", z.count(1), 1);
            }
        }
    }

    private static void parametersOfStrands() {
        StrandRuntime x = Due.begun("fn 0 0; push 5; push 1; push 2; push 3; push 4; spawn 1; jump 6;"
            + " fn 4 5; local 0; write; local 1; write; local 2; write; local 3; write; local 4; write; push 0; return");
        x.run(6);
        Due.is("what is below stays", x.strand(0, 4), 1);
        Due.is("what is below stays", x.operand(0, 0), 5);
        x.run(30);
        Due.written("four parameters", x, 1, 2, 3, 4, 0);
    }

    /** Each argument becomes its parameter, whatever the others are: by 18, by 20 and by 34. */
    private static void argumentsOfAnyKind() {
        String four = "push 7; nil; tuple 1; channel 2; ";
        String shows = "fn 4 4; local 0; local 1; local 2; local 3; on:; yield; jump on";
        StrandRuntime called = Due.begun("fn 0 0; " + four + "call 1; return; " + shows);
        called.run(9);
        StrandRuntime made = Due.begun("fn 0 0; " + four + "spawn 1; on:; yield; jump on; " + shows);
        made.quantum(100);
        made.run(10);
        for (int k = 0; k < 4; k++) {
            Due.is("called: kind of parameter " + k, called.kind(0, 3 - k), k);
            Due.is("a strand: kind of parameter " + k, made.kind(1, 3 - k), k);
        }
        Due.is("called: the number", called.operand(0, 3), 7);
        Due.is("a strand: the number", made.operand(1, 3), 7);
        for (int k = 0; k < 4; k++) {
            String value = four.split("; ")[k];
            StrandRuntime x = Due.begun("fn 0 0; push 3; defer 1; " + value + "; defer 1; push 0; return; fn 1 1; local 0; on:; yield; jump on");
            x.run(7);
            Due.is("deferred: kind of " + value, x.kind(0, 0), k);
        }
    }

    /** "LOCALS (PARAMETERS among them, at most 12)". */
    private static void localsUpTo12() {
        StringBuilder body = new StringBuilder("fn 0 12; ");
        long[] due = new long[12];
        for (int i = 0; i < 12; i++) {
            body.append("push ").append(70 + i).append("; setlocal ").append(i).append("; ");
        }
        for (int i = 0; i < 12; i++) {
            body.append("local ").append(i).append("; write; ");
            due[i] = 70 + i;
        }
        Due.written("twelve locals", Due.ran(body + "push 0; return"), due);
        StrandRuntime x = Due.ran("fn 0 0; push 3; call 1; write; push 0; return; fn 1 1; push 4; setlocal 0; local 0; return");
        Due.written("a parameter is a local", x, 4);
    }

    /** "LOCALS (what is no argument is the NUMBER 0)", in a frame that stands where another one stood too. */
    private static void localsAreZeroAtFirst() {
        StrandRuntime x = Due.ran("fn 0 0; push 1; call 1; pop; push 2; call 1; pop; call 2; pop; push 3; spawn 1; yield; yield; yield;"
            + " push 0; return; fn 1 3; local 0; write; local 1; write; local 2; write; push 8; setlocal 1; tuple 1; setlocal 2;"
            + " push 0; return; fn 0 2; local 0; write; local 1; write; push 0; return");
        Due.written("locals", x, 1, 0, 0, 2, 0, 0, 0, 0, 3, 0, 0);
    }

    /** "GLOBALS 0 to 15 are VALUES, at first the NUMBER 0". */
    private static void globals16() {
        StringBuilder body = new StringBuilder();
        long[] due = new long[32];
        for (int g = 0; g < 16; g++) {
            body.append("global ").append(g).append("; write; ");
        }
        for (int g = 0; g < 16; g++) {
            body.append("push ").append(30 + g).append("; setglobal ").append(g).append("; ");
        }
        for (int g = 0; g < 16; g++) {
            body.append("global ").append(g).append("; write; ");
            due[16 + g] = 30 + g;
        }
        writes(body + "push 0; pop", due);
    }

    /** "STRANDS 0 to 15": fifteen beside main, and the next is one too many; its arguments are gone. */
    private static void strands16() {
        StrandRuntime x = Due.begun("fn 0 0; " + "push 1; spawn 1; ".repeat(15) + "push 3; defer 2; push 9; tuple 1; spawn 1; push 0; return;"
            + " fn 1 1; yield; jump 0; fn 1 1; recover; write; on:; yield; jump on");
        x.quantum(100);
        x.run(30);
        for (int s = 0; s < 16; s++) {
            Due.is("strand " + s, x.strand(s, 0), 1);
        }
        Due.is("made", x.count(1), 16);
        Due.is("there", x.count(2), 16);
        x.run(4);
        Due.is("one object is still an operand", x.count(5), 1);
        x.run(1);
        Due.is("a strand too many: the deferred call", x.strand(0, 2), 2);
        Due.is("made", x.count(1), 16);
        Due.is("the argument was popped", x.count(5), 0);
        x.run(2);
        Due.is("panic", x.take(), -3);
    }

    /** "one that ended is there till its number is taken again". */
    private static void endedStrandsStay() {
        StrandRuntime x = Due.begun("fn 0 0; spawn 1; spawn 2; yield; yield; spawn 3; yield; spawn 3; yield; on:; yield; jump on;"
            + " fn 0 0; push 11; return; fn 0 0; push 12; panic; fn 0 0; yield; jump 0");
        x.run(8);
        Due.is("strand 1 returned", x.strand(1, 0), 5);
        Due.is("strand 1's value", x.strand(1, 6), 11);
        Due.is("strand 2 panicked", x.strand(2, 0), 6);
        Due.is("strand 2's panic", x.strand(2, 6), 12);
        Due.is("there", x.count(2), 1);
        x.run(1);
        Due.is("strand 1 is new", x.strand(1, 0), 1);
        Due.is("strand 1's value is gone", x.strand(1, 6), 0);
        Due.is("strand 1's function", x.strand(1, 2), 3);
        Due.is("strand 2 is still there", x.strand(2, 6), 12);
        x.run(100);
        Due.is("strand 2 is new", x.strand(2, 0), 1);
        Due.is("strand 2's panic is gone", x.strand(2, 6), 0);
        Due.is("made", x.count(1), 5);
        Due.is("there", x.count(2), 3);
        Due.is("strand 3 never was", x.strand(3, 0), 0);
    }

    /** "the least such": of sixteen that are there 3, 7 and 15 end. */
    private static void leastNumberIsTakenAgain() {
        StringBuilder main = new StringBuilder("fn 0 0; ");
        for (int s = 1; s <= 15; s++) {
            main.append("spawn ").append(s == 3 || s == 7 || s == 15 ? 2 : 1).append("; ");
        }
        StrandRuntime x = Due.begun(main + "yield; spawn 3; spawn 3; spawn 3; on:; yield; jump on; fn 0 0; yield; jump 0;"
            + " fn 0 0; push 5; return; fn 0 0; yield; jump 0");
        x.quantum(100);
        x.run(16 + 12 + 6);
        Due.is("main runs", x.count(4), 0);
        Due.is("there", x.count(2), 13);
        int[] due = {3, 7, 15};
        for (int i = 0; i < 3; i++) {
            x.run(1);
            for (int k = 0; k < 3; k++) {
                Due.is("strand " + due[k] + " behind " + (i + 1), x.strand(due[k], 2), k <= i ? 3 : 0);
            }
        }
        Due.is("there", x.count(2), 16);
        Due.is("made", x.count(1), 19);
    }

    /** "FRAMES (at most 30)". */
    private static void frames30() {
        StrandRuntime x = Due.begun("fn 0 0; push 0; call 1; return; fn 1 1; tuple 1; local 0; call 1; return");
        x.run(2 + 3 * 28);
        Due.is("thirty frames", x.strand(0, 1), 30);
        Due.is("state", x.state(), 1);
        x.run(2);
        Due.is("still thirty", x.strand(0, 1), 30);
        Due.is("the next call is one too many", x.run(1), 1);
        Due.is("state", x.state(), 3);
        Due.is("panic", x.strand(0, 6), -3);
        StrandRuntime y = Due.ran("fn 0 0; push 28; call 1; write; push 0; return;"
            + " fn 1 1; local 0; jumpzero last; local 0; push 1; sub; call 1; push 1; add; return; last:; push 2; return");
        Due.is("thirty frames are enough", y.state(), 2);
        Due.written("thirty frames", y, 30);
    }

    private static void framesOfEachStrand() {
        StrandRuntime x = Due.begun("fn 0 0; push 28; spawn 1; push 28; spawn 1; push 28; call 1; return;"
            + " fn 1 1; local 0; jumpzero last; local 0; push 1; sub; call 1; return; last:; yield; jump last");
        x.run(700);
        Due.is("main's frames", x.strand(0, 1), 30);
        Due.is("strand 1's frames", x.strand(1, 1), 29);
        Due.is("strand 2's frames", x.strand(2, 1), 29);
        Due.is("state", x.state(), 1);
    }

    /** "OPERANDS (at most 16)": what pushes can push the sixteenth, and not the next. */
    private static void operands16() {
        String[] pushes = {"push 1", "nil", "local 0", "global 0", "double", "tuple 0", "channel 0", "recover", "call 1"};
        for (String op : pushes) {
            String f = "; jump on; fn 0 0; push 3; return";
            StrandRuntime x = Due.begun("fn 0 1; " + "push 5; ".repeat(15) + op + "; on:; yield" + f);
            x.run(20);
            Due.is(op + " as the sixteenth: operands", x.strand(0, 4), 16);
            StrandRuntime y = Due.begun("fn 0 1; " + "push 5; ".repeat(16) + op + "; on:; yield" + f);
            Due.is(op + " as the seventeenth: steps", y.run(20), 17);
            Due.is(op + " as the seventeenth: panic", y.strand(0, 6), -3);
        }
        // Two are pushed for one that is received from.
        StrandRuntime x = Due.begun("fn 0 0; channel 1; double; close; " + "push 5; swap; ".repeat(14) + "receive; on:; yield; jump on");
        x.run(40);
        Due.is("receive: operands", x.strand(0, 4), 16);
        StrandRuntime y = Due.begun("fn 0 0; channel 1; double; close; " + "push 5; swap; ".repeat(15) + "receive; on:; yield; jump on");
        y.run(40);
        Due.is("receive, one too many: panic", y.strand(0, 6), -3);
    }

    private static void operandsOfEachFrame() {
        StrandRuntime x = Due.begun("fn 0 0; " + "push 5; ".repeat(15) + "call 1; return; fn 0 0; " + "push 6; ".repeat(15)
            + "call 2; on:; yield; jump on; fn 0 0; " + "push 7; ".repeat(16) + "return");
        x.run(15 + 1 + 15 + 1 + 16);
        Due.is("frames", x.strand(0, 1), 3);
        Due.is("operands of the last one", x.strand(0, 4), 16);
        x.run(1);
        Due.is("frames", x.strand(0, 1), 2);
        Due.is("operands of the one before, and what was returned", x.strand(0, 4), 16);
        Due.is("returned", x.operand(0, 0), 7);
        Due.is("below", x.operand(0, 1), 6);
    }

    /** "DEFERRED calls (at most 6)". */
    private static void deferred6() {
        for (int n = 0; n <= 7; n++) {
            StringBuilder body = new StringBuilder("fn 0 0; ");
            for (int i = 1; i <= n; i++) {
                body.append("push ").append(i).append("; defer 1; ");
            }
            StrandRuntime x = Due.begun(body + "push 40; return; fn 1 1; local 0; write; push 0; return");
            x.run(2 * Math.max(1, Math.min(n, 6)));
            if (n <= 6 && n > 0) {
                Due.is("deferred", x.strand(0, 5), n);
            }
            if (x.state() == 1) {
                x.run(1000);
            }
            Due.is(n + " deferred: state", x.state(), n <= 6 ? 2 : 3);
            Due.is(n + " deferred: outcome", x.strand(0, 6), n <= 6 ? 40 : -3);
            long[] due = new long[Math.min(n, 6)];
            for (int i = 0; i < due.length; i++) {
                due[i] = due.length - i;
            }
            Due.written(n + " deferred", x, due);
        }
    }

    private static void deferredOfEachFrame() {
        String six = "push 1; defer 2; ".repeat(6);
        StrandRuntime x = Due.ran("fn 0 0; " + six + "call 1; return; fn 0 0; " + six + "push 3; return;"
            + " fn 1 1; local 0; write; push 0; return");
        Due.is("state", x.state(), 2);
        Due.is("written", x.count(3), 12);
    }

    /** "34 (VALUE) defers a call": it takes that, and leaves what is below. */
    private static void deferTakesOneValue() {
        StrandRuntime x = Due.begun("fn 0 0; push 8; push 9; push 1; defer 1; on:; jump on; fn 1 1; push 0; return");
        x.run(4);
        Due.is("deferred", x.strand(0, 5), 1);
        Due.is("operands", x.strand(0, 4), 2);
        Due.is("the top one", x.operand(0, 0), 9);
        Due.is("the one below", x.operand(0, 1), 8);
    }

    /** "if that has had as many as the QUANTUM since it came to run ... it goes to the end of the queue". */
    private static void turnsOfEachQuantum() {
        for (int quantum = 1; quantum <= 100; quantum++) {
            StrandRuntime x = Due.begun("fn 0 0; spawn 1; jump 1; fn 0 0; jump 0");
            x.quantum(quantum);
            for (int turn = 0; turn < 4; turn++) {
                if (quantum > 1) {
                    x.run(quantum - 1);
                }
                Due.is("quantum " + quantum + ": runs before the last step of turn " + turn, x.count(4), turn % 2);
                x.run(1);
                Due.is("quantum " + quantum + ": runs behind turn " + turn, x.count(4), 1 - turn % 2);
            }
        }
    }

    private static void yieldAsLastStepOfATurn() {
        // Who yields with the last step of its turn stands in the queue once.
        StrandRuntime x = Due.begun("fn 0 0; spawn 1; spawn 1; yield; jump 2; fn 0 0; push 1; pop; yield; jump 0");
        x.quantum(3);
        int[] due = {1, 1, 1, 2, 2, 2};
        x.run(3);
        for (int i = 0; i < 6; i++) {
            Due.is("runs " + i, x.count(4), due[i]);
            x.run(1);
        }
        Due.is("main again", x.count(4), 0);
        x.run(2);
        Due.is("main yields again", x.count(4), 1);
        StrandRuntime one = Due.begun("fn 0 0; spawn 1; yield; jump 1; fn 0 0; yield; jump 0");
        one.quantum(1);
        for (int i = 0; i < 20; i++) {
            Due.is("quantum 1, step " + i, one.count(4), i % 2);
            one.run(1);
        }
    }

    private static void aloneInTheQueue() {
        StrandRuntime x = Due.begun("fn 0 0; push 1; pop; yield; jump 0");
        x.quantum(2);
        for (int i = 0; i < 30; i++) {
            Due.is("main runs", x.count(4), 0);
            Due.is("one step", x.run(1), 1);
        }
        Due.is("state", x.state(), 1);
    }

    /** "(behind those that this STEP made ready)": a new strand, one that gets what is sent, and one whose value is held. */
    private static void behindThoseMadeReady() {
        StrandRuntime made = Due.begun("fn 0 0; push 1; spawn 1; jump 2; fn 1 1; jump 0");
        made.quantum(2);
        made.run(2);
        Due.is("a new one runs first", made.count(4), 1);
        StrandRuntime sent = Due.begun("fn 0 0; channel 0; setglobal 0; spawn 1; spawn 2; yield; global 0; push 5; send; jump 8;"
            + " fn 0 0; global 0; receive; jump 2; fn 0 0; jump 0");
        sent.quantum(5);
        sent.run(5 + 2 + 5);
        Due.is("main runs", sent.count(4), 0);
        sent.quantum(3);
        sent.run(3);
        Due.is("strand 2 stood before", sent.count(4), 2);
        sent.run(3);
        Due.is("who got it", sent.count(4), 1);
        sent.run(3);
        Due.is("then main", sent.count(4), 0);
        StrandRuntime held = Due.begun("fn 0 0; channel 1; setglobal 0; spawn 1; yield; global 0; receive; jump 6;"
            + " fn 0 0; global 0; push 1; send; global 0; push 2; send; jump 6");
        held.quantum(6);
        held.run(4 + 6);
        Due.is("strand 1 sends", held.strand(1, 0), 2);
        held.quantum(2);
        held.run(2);
        Due.is("whose value is held now runs first", held.count(4), 1);
        held.run(2);
        Due.is("then main", held.count(4), 0);
        StrandRuntime closed = Due.begun("fn 0 0; channel 0; setglobal 0; spawn 1; spawn 1; yield; global 0; close; jump 7;"
            + " fn 0 0; global 0; receive; jump 2");
        closed.run(5 + 4);
        closed.quantum(2);
        closed.run(2);
        Due.is("who waited longest for what is closed", closed.count(4), 1);
        closed.run(2);
        Due.is("who waited less long", closed.count(4), 2);
        closed.run(2);
        Due.is("then main", closed.count(4), 0);
    }

    /** "if so, or if it waits or ended, the first one of the queue runs." */
    private static void firstOfQueueRuns() {
        StrandRuntime x = Due.begun("fn 0 0; spawn 1; spawn 2; spawn 3; spawn 4; yield; jump 4;"
            + " fn 0 0; nil; receive; jump 0; fn 0 0; push 1; return; fn 0 0; push 1; panic; fn 0 0; yield; jump 0");
        x.quantum(100);
        int[] due = {0, 0, 0, 0, 0, 1, 1, 2, 2, 3, 3, 4, 0, 0, 4, 4, 0, 0, 4};
        for (int i = 0; i < due.length; i++) {
            Due.is("runs before step " + i, x.count(4), due[i]);
            x.run(1);
        }
        // The turn of one that comes to run is a whole one, however the turn before ended.
        StrandRuntime y = Due.begun("fn 0 0; spawn 1; jump 1; fn 0 0; push 1; pop; nil; receive; jump 0");
        y.quantum(5);
        y.run(5 + 4);
        Due.is("strand 1 waits", y.strand(1, 0), 3);
        y.run(4);
        Due.is("main's turn", y.count(4), 0);
    }

    /** "If none is ready: all wait, the RUN is over". */
    private static void noneReady() {
        String[] waiting = {"nil; push 1; send", "nil; receive", "nil; push 0; nil; select 1"};
        for (int i = 0; i < waiting.length; i++) {
            StrandRuntime x = Due.begun("fn 0 0; " + waiting[i] + "; return");
            x.run(1000);
            Due.is(waiting[i] + ": state", x.state(), 4);
            Due.is(waiting[i] + ": main", x.strand(0, 0), 2 + i);
            Due.is(waiting[i] + ": runs", x.count(4), -1);
            Due.is(waiting[i] + ": there", x.count(2), 1);
        }
        StrandRuntime x = Due.begun("fn 0 0; spawn 1; nil; receive; return; fn 0 0; yield; yield; push 1; return");
        x.run(3);
        Due.is("main waits, strand 1 is ready: goes on", x.state(), 1);
        x.run(3);
        Due.is("strand 1 still runs", x.state(), 1);
        x.run(1);
        Due.is("strand 1 ended: all wait", x.state(), 4);
        Due.is("one is there", x.count(2), 1);
    }

    /** "so it is when main ends": though others are ready, or wait. */
    private static void mainEnds() {
        for (String end : new String[] {"return", "panic"}) {
            StrandRuntime x = Due.begun("fn 0 0; spawn 1; spawn 2; yield; push 9; " + end + "; fn 0 0; yield; push 1; write; jump 0;"
                + " fn 0 0; nil; receive; return");
            x.run(1000);
            Due.is(end + ": state", x.state(), end.equals("return") ? 2 : 3);
            Due.is(end + ": steps", x.count(0), 3 + 1 + 2 + 2);
            Due.is(end + ": runs", x.count(4), -1);
            Due.is(end + ": one is ready", x.strand(1, 0), 1);
            Due.is(end + ": one waits", x.strand(2, 0), 3);
            Due.is(end + ": there", x.count(2), 2);
            Due.is(end + ": nothing more is written", x.count(3), 0);
        }
    }

    /** Instruction 0 "pushes the NUMBER A", whatever that is. */
    private static void pushes() {
        writes("push -2147483648; write; push 2147483647; write; push -1; write; push 0; write",
            -2147483648L, 2147483647L, -1, 0);
    }

    /** "12 / (towards 0)". */
    private static void divides() {
        writes("push 1; push 2; div; write; push -1; push 2; div; write; push 1; push -2; div; write; push -1; push -2; div; write",
            0, 0, 0, 0);
        writes("push 5; push 2; div; write; push -5; push 2; div; write; push 5; push -2; div; write; push -5; push -2; div; write",
            2, -2, -2, 2);
        writes("push 6; push 3; div; write; push 0; push -1; div; write", 2, 0);
        writes(MOST + "push -1; div; write; " + LEAST + "push 1; div; write", -Long.MAX_VALUE, Long.MIN_VALUE);
        writes(LEAST + LEAST + "div; write; " + MOST + LEAST + "div; write; " + LEAST + MOST + "div; write", 1, 0, -1);
        panics("push 5; push 0; div", -1);
        panics(LEAST + "push 0; div", -1);
    }

    /** "13 1 if the lower one is less, else 0", "14 1 if two are the same NUMBER, or NIL, or OBJECT, else 0". */
    private static void compares() {
        writes("push 1; push 2; less; write; push 2; push 1; less; write; push 2; push 2; less; write", 1, 0, 0);
        writes(LEAST + MOST + "less; write; " + MOST + LEAST + "less; write; " + LEAST + LEAST + "less; write", 1, 0, 0);
        String[] values = {"push 0", "push 1", "nil", "local 0", "local 1", "local 2", "local 3"};
        for (int i = 0; i < values.length; i++) {
            for (int k = 0; k < values.length; k++) {
                writes("tuple 0; setlocal 0; tuple 0; setlocal 1; channel 0; setlocal 2; channel 0; setlocal 3; "
                    + values[i] + "; " + values[k] + "; same; write", i == k ? 1 : 0);
            }
            writes("tuple 0; setlocal 0; tuple 1; setlocal 1; channel 0; setlocal 2; channel 1; setlocal 3; "
                + values[i] + "; iszero; write", i == 0 || i == 2 ? 1 : 0);
        }
    }

    /** "16 goes on at place A of its FUNCTION; 17 so if what is popped is the NUMBER 0 or NIL". */
    private static void jumps() {
        StrandRuntime x = Due.begun("fn 0 0; jump 2; jump 1; jump 0");
        int[] due = {0, 2, 0, 2};
        for (int place : due) {
            Due.is("the first place and the last", x.strand(0, 3), place);
            x.run(1);
        }
        String[] values = {"push 0", "nil", "push 1", "push -1", "push -2147483648", "tuple 0", "channel 0"};
        for (int i = 0; i < values.length; i++) {
            StrandRuntime y = Due.begun("fn 0 0; jump 2; jump 1; push 7; " + values[i] + "; jumpzero 1; jump 5");
            y.run(4);
            Due.is(values[i] + ": place", y.strand(0, 3), i < 2 ? 1 : 5);
            Due.is(values[i] + ": popped", y.strand(0, 4), 1);
        }
        StrandRuntime z = Due.begun("fn 0 0; jump 2; push 1; call 1; return; fn 0 0; jump 1; push 5; return");
        z.run(3);
        Due.is("a place of its own function", z.strand(0, 3), 1);
        Due.is("its function", z.strand(0, 2), 1);
    }

    /** "19 returns what is popped: pushed in the FRAME of the call", alone of all its operands. */
    private static void returnsAnything() {
        String[] values = {"push -3", "nil", "tuple 1", "channel 1"};
        for (int i = 0; i < values.length; i++) {
            StrandRuntime x = Due.begun("fn 0 0; push 4; call 1; jump 2; fn 0 0; push 5; push 6; " + values[i] + "; return");
            x.run(6);
            Due.is(values[i] + ": frames", x.strand(0, 1), 1);
            Due.is(values[i] + ": operands", x.strand(0, 4), 2);
            Due.is(values[i] + ": kind", x.kind(0, 0), i);
            Due.is(values[i] + ": number", x.operand(0, 0), i == 0 ? -3 : 0);
            Due.is(values[i] + ": below", x.operand(0, 1), 4);
        }
    }

    /** 24 and 25 with numbers at and beyond the edges of a tuple. */
    private static void indexes() {
        String[] beyond = {"push -1; ", "push 3; ", TWO_32, LEAST, MOST, TWO_32 + "push 1; add; ", "push -2147483648; "};
        for (String index : beyond) {
            panics("tuple 3; " + index + "getat", -2);
            panics("tuple 3; " + index + "push 1; setat", -2);
        }
        for (int i = 0; i < 3; i++) {
            writes("tuple 3; setlocal 0; local 0; push " + i + "; push 9; setat; local 0; get " + i + "; write; local 0; push "
                + i + "; getat; write", 9, 9);
        }
    }

    /** "26 how many VALUES a TUPLE has, or how many a CHANNEL holds": held, not its room, nor who waits. */
    private static void sizes() {
        writes("tuple 0; size; write; tuple 16; size; write; channel 8; size; write", 0, 16, 0);
        StrandRuntime x = Due.ran("fn 0 0; channel 1; setglobal 0; spawn 1; yield; yield; global 0; size; write; global 0; receive; pop; pop;"
            + " global 0; size; write; global 0; receive; pop; pop; global 0; size; write; push 0; return;"
            + " fn 0 0; global 0; push 1; send; global 0; push 2; send; push 0; return");
        Due.written("sizes", x, 1, 1, 0);
        panics("nil; size", -2);
        panics("push 3; size", -2);
    }

    /** "33 (NUMBER) writes it". */
    private static void writes() {
        writes(LEAST + "write; " + MOST + "write; push 0; write", Long.MIN_VALUE, Long.MAX_VALUE, 0);
        for (String wrong : new String[] {"nil", "tuple 0", "channel 0"}) {
            StrandRuntime x = Due.ran("fn 0 0; " + wrong + "; write; push 0; return");
            Due.is(wrong + ": panic", x.strand(0, 6), -2);
            Due.is(wrong + ": nothing is written", x.count(3), 0);
        }
    }
}
