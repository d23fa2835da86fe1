/** Deferred calls, panics and recovery, with the limits of frames; seen through run, state, take and strand. */
public final class PanicTest {
    private PanicTest() {
    }

    public static void main(String[] args) {
        deferredInOrder();
        deferredStepByStep();
        tooManyDeferred();
        panicsPassThroughFrames();
        recovering();
        recoveringIsOnlyForDeferred();
        panicsInDeferredCalls();
        recoveredThenPanickedAgain();
        tooManyFrames();
        deferredWithoutFrame();
        deferredOfNewRuns();
        deferredWaits();
        Due.end("PanicTest");
    }

    private static void deferredInOrder() {
        StrandRuntime x = Due.ran("fn 0 0; call 1; write; push 0; return;"
            + " fn 0 0; push 1; defer 2; push 2; defer 2; push 3; defer 2; push 50; return;"
            + " fn 1 1; local 0; write; push 99; return");
        Due.written("deferred", x, 3, 2, 1, 50);
        Due.is("steps", x.count(0), 1 + 8 + 3 * 4 + 3);
    }

    private static void deferredStepByStep() {
        StrandRuntime x = Due.begun("fn 0 0; call 1; jump 1; fn 0 0; push 1; defer 2; push 2; defer 2; tuple 3; return;"
            + " fn 1 1; push 0; return");
        x.run(3);
        Due.is("deferred", x.strand(0, 5), 1);
        x.run(2);
        Due.is("deferred", x.strand(0, 5), 2);
        x.run(1);
        Due.is("operands", x.strand(0, 4), 1);
        x.run(1);
        Due.is("frames", x.strand(0, 1), 3);
        Due.is("function", x.strand(0, 2), 2);
        Due.is("deferred", x.strand(0, 5), 0);
        Due.is("the returned value is reached", x.count(5), 1);
        Due.is("its cells", x.count(6), 5);
        x.run(2);
        Due.is("frames", x.strand(0, 1), 3);
        Due.is("place", x.strand(0, 3), 0);
        x.run(2);
        Due.is("frames", x.strand(0, 1), 1);
        Due.is("operands", x.strand(0, 4), 1);
        Due.is("returned", x.kind(0, 0), 2);
    }

    private static void tooManyDeferred() {
        String six = "push 1; defer 1; push 2; defer 1; push 3; defer 1; push 4; defer 1; push 5; defer 1; push 6; defer 1;";
        String helper = " fn 1 1; local 0; write; push 0; return";
        StrandRuntime x = Due.ran("fn 0 0; " + six + "push 0; return;" + helper);
        Due.is("state", x.state(), 2);
        Due.written("six", x, 6, 5, 4, 3, 2, 1);
        StrandRuntime y = Due.ran("fn 0 0; " + six + "push 7; defer 1; push 0; return;" + helper);
        Due.is("state", y.state(), 3);
        Due.is("panic", y.strand(0, 6), -3);
        Due.written("a seventh", y, 6, 5, 4, 3, 2, 1);
    }

    private static void panicsPassThroughFrames() {
        StrandRuntime x = Due.ran("fn 0 0; push 1; defer 3; call 1; push 5; write; push 0; return;"
            + " fn 0 0; push 2; defer 3; call 2; push 6; write; push 0; return;"
            + " fn 0 0; push 3; defer 3; push 44; panic;"
            + " fn 1 1; local 0; write; push 0; return");
        Due.is("state", x.state(), 3);
        Due.is("panic", x.strand(0, 6), 44);
        Due.written("deferred", x, 3, 2, 1);
    }

    private static void recovering() {
        StrandRuntime x = Due.ran("fn 0 0; push 9; call 1; write; write; push 0; return;"
            + " fn 0 0; push 1; defer 3; push 2; defer 2; push 3; defer 3; push 44; panic;"
            + " fn 1 1; recover; write; recover; iszero; write; push 0; return;"
            + " fn 1 1; local 0; write; recover; iszero; write; push 0; return");
        Due.is("state", x.state(), 2);
        // The first call recovers 44; so 2 has nothing to recover, panics as it writes NIL, and the last call recovers that.
        Due.written("recovered", x, 3, 0, 1, 0, 0, 9);
        StrandRuntime y = Due.ran("fn 0 0; push 9; call 1; write; write; push 0; return;"
            + " fn 0 0; push 1; defer 3; push 2; defer 2; push 3; defer 3; push 44; panic;"
            + " fn 1 1; recover; write; recover; iszero; write; push 0; return;"
            + " fn 1 1; local 0; write; push 77; return");
        Due.is("state", y.state(), 2);
        Due.written("recovered", y, 3, 44, 1, 1, 0, 9);
        StrandRuntime z = Due.ran("fn 0 0; push 1; defer 1; push 65536; double; mul; push 5; add; panic;"
            + " fn 1 1; recover; write; push 0; return");
        Due.is("main returned", z.state(), 2);
        Due.is("main returned 0", z.strand(0, 6), 0);
        Due.written("all 64 bits", z, 4294967301L);
    }

    private static void recoveringIsOnlyForDeferred() {
        // Function 2 is called by a deferred call: it is none itself.
        StrandRuntime x = Due.ran("fn 0 0; push 1; defer 1; push 44; panic;"
            + " fn 1 1; call 2; write; push 0; return; fn 0 0; recover; iszero; return");
        Due.is("panic", x.strand(0, 6), 44);
        Due.written("called by a deferred call", x, 1);
        // A deferred call of one that returns.
        StrandRuntime y = Due.ran("fn 0 0; push 1; defer 1; push 44; return; fn 1 1; recover; iszero; write; push 0; return");
        Due.is("returned", y.strand(0, 6), 44);
        Due.written("behind a return", y, 1);
        // A deferred call of a deferred call of one that panics.
        StrandRuntime z = Due.ran("fn 0 0; push 1; defer 1; push 44; panic;"
            + " fn 1 1; push 2; defer 2; push 0; return; fn 1 1; recover; iszero; write; push 0; return");
        Due.is("panic", z.strand(0, 6), 44);
        Due.written("of a deferred call", z, 1);
        StrandRuntime w = Due.ran("fn 0 0; recover; iszero; write; push 0; return");
        Due.written("in main", w, 1);
    }

    private static void panicsInDeferredCalls() {
        StrandRuntime x = Due.ran("fn 0 0; push 1; defer 2; push 2; defer 1; push 44; panic;"
            + " fn 1 1; push 45; panic; fn 1 1; recover; write; push 0; return");
        Due.is("main returned", x.state(), 2);
        Due.written("takes the place of one before", x, 45);
        StrandRuntime y = Due.ran("fn 0 0; push 1; defer 2; push 2; defer 1; push 44; return;"
            + " fn 1 1; push 45; panic; fn 1 1; recover; write; push 0; return");
        Due.is("main returned", y.state(), 2);
        Due.is("main returned 0", y.strand(0, 6), 0);
        Due.written("takes the place of a return", y, 45);
        StrandRuntime z = Due.ran("fn 0 0; push 2; defer 1; push 44; return; fn 1 1; push 45; panic");
        Due.is("main panicked", z.state(), 3);
        Due.is("panic", z.strand(0, 6), 45);
        // What the deferred call recovers itself does not go on.
        StrandRuntime w = Due.ran("fn 0 0; push 2; defer 1; push 44; panic;"
            + " fn 1 1; push 3; defer 2; push 45; panic; fn 1 1; recover; write; push 0; return");
        Due.is("panic", w.strand(0, 6), 44);
        Due.written("recovered", w, 45);
    }

    private static void recoveredThenPanickedAgain() {
        StrandRuntime x = Due.ran("fn 0 0; push 1; defer 2; push 2; defer 1; push 44; panic;"
            + " fn 1 1; recover; write; push 46; panic; fn 1 1; recover; write; push 0; return");
        Due.is("state", x.state(), 2);
        Due.written("both", x, 44, 46);
    }

    private static void tooManyFrames() {
        StrandRuntime x = Due.begun("fn 0 1; local 0; call 1; return; fn 1 1; local 0; push 1; add; double; write; call 1; return");
        x.run(1000);
        Due.is("state", x.state(), 3);
        Due.is("panic", x.strand(0, 6), -3);
        Due.is("frames that were there beside main's", x.count(3), 29);
        StrandRuntime y = Due.begun("fn 0 0; call 0; return");
        y.run(29);
        Due.is("frames", y.strand(0, 1), 30);
        Due.is("state", y.state(), 1);
        Due.is("run", y.run(5), 1);
        Due.is("state", y.state(), 3);
    }

    private static void deferredWithoutFrame() {
        // Frame 30 returns 7 but has deferred calls: they are dropped, and it panics; frame 29 recovers.
        StrandRuntime x = Due.ran("fn 0 1; push 28; call 1; write; push 0; return;"
            + " fn 1 1; local 0; push 1; same; jumpzero 7; push 5; defer 3; jump 7;"
            + " local 0; jumpzero 14; local 0; push 1; sub; call 1;"
            + " jump 19; push 6; defer 2; push 6; defer 2; push 7; return;"
            + " fn 1 1; local 0; write; push 0; return; fn 1 1; recover; write; push 0; return");
        Due.is("state", x.state(), 2);
        Due.written("dropped", x, -3, 0);
    }

    private static void deferredOfNewRuns() {
        StrandRuntime x = Due.begun("fn 0 0; push 1; jumpzero 7; push 1; defer 1; push 1; defer 1; push 5; return;"
            + " fn 1 1; local 0; write; push 0; return");
        x.run(6);
        Due.is("deferred", x.strand(0, 5), 2);
        x.begin(0);
        Due.is("deferred of a new run", x.strand(0, 5), 0);
        x.run(100);
        Due.written("each once", x, 1, 1);
    }

    private static void deferredWaits() {
        StrandRuntime x = Due.begun("fn 0 0; channel 0; setglobal 0; spawn 1; yield; global 0; push 5; send; yield; push 3; return;"
            + " fn 0 0; push 1; defer 2; push 44; panic;"
            + " fn 1 1; global 0; receive; pop; recover; add; write; push 0; return");
        x.run(10);
        Due.is("strand 1 receives in its deferred call", x.strand(1, 0), 3);
        Due.is("frames", x.strand(1, 1), 2);
        Due.is("no outcome yet", x.strand(1, 6), 0);
        x.run(100);
        Due.written("received and recovered", x, 49);
        Due.is("strand 1", x.strand(1, 0), 5);
    }
}
