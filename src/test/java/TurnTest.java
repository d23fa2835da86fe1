/** Strands and their turns: begin, quantum, run, state, strand and count. */
public final class TurnTest {
    private TurnTest() {
    }

    public static void main(String[] args) {
        runRefuses();
        howManySteps();
        quantumEndsTurns();
        quantumWhileTurnsGoOn();
        yielding();
        madeReadyBeforeRunner();
        numbersAreTakenAgain();
        tooManyStrands();
        mainEnds();
        allWait();
        endsOfStrands();
        Due.end("TurnTest");
    }

    private static void runRefuses() {
        StrandRuntime x = new StrandRuntime();
        Due.refusesArgument("run(0) without a run", () -> x.run(0));
        Due.refusesState("run(1) without a run", () -> x.run(1));
        Due.load(x, "fn 0 0; jump 0");
        Due.refusesState("run(1) without a run", () -> x.run(1));
        x.begin(0);
        for (int n : new int[] {0, -1, 1001, Integer.MIN_VALUE, Integer.MAX_VALUE}) {
            Due.refusesArgument("run(" + n + ")", () -> x.run(n));
        }
        Due.is("steps", x.count(0), 0);
        Due.is("run(1)", x.run(1), 1);
        Due.is("run(1000)", x.run(1000), 1000);
        Due.is("steps", x.count(0), 1001);
        Due.is("state", x.state(), 1);
        StrandRuntime over = Due.ran("fn 0 0; push 5; return");
        Due.refusesState("run behind the end", () -> over.run(1));
        Due.refusesArgument("run(0) behind the end", () -> over.run(0));
    }

    private static void howManySteps() {
        StrandRuntime x = Due.begun("fn 0 0; push 5; pop; push 6; return");
        Due.is("run(3)", x.run(3), 3);
        Due.is("state", x.state(), 1);
        Due.is("place", x.strand(0, 3), 3);
        Due.is("run(1)", x.run(1), 1);
        Due.is("state", x.state(), 2);
        Due.is("steps", x.count(0), 4);
        x.begin(0);
        Due.is("run(1000)", x.run(1000), 4);
        x.begin(0);
        Due.is("run(4)", x.run(4), 4);
        Due.is("state", x.state(), 2);
    }

    /** Strands 1 and 2 write their number over and over; so does main. */
    private static StrandRuntime writers() {
        return Due.begun("fn 0 0; push 1; spawn 1; push 2; spawn 1; push 0; write; jump 4;"
            + " fn 1 1; local 0; write; jump 0");
    }

    private static void quantumEndsTurns() {
        StrandRuntime x = writers();
        x.quantum(3);
        x.run(3);
        Due.is("runs behind main's turn", x.count(4), 1);
        x.run(3);
        Due.is("runs behind strand 1's turn", x.count(4), 0);
        x.run(1);
        Due.is("runs", x.count(4), 0);
        x.run(2);
        Due.is("runs", x.count(4), 1);
        x.run(3);
        Due.is("runs", x.count(4), 2);
        x.run(3);
        Due.is("runs", x.count(4), 0);
        Due.written("quantum 3", x, 1, 0, 1, 2);
        StrandRuntime one = writers();
        one.quantum(1);
        int[] due = {0, 0, 1, 0, 1, 0, 1, 2, 0, 1, 2, 0};
        for (int i = 0; i < due.length; i++) {
            Due.is("runs, quantum 1, step " + i, one.count(4), due[i]);
            one.run(1);
        }
    }

    private static void quantumWhileTurnsGoOn() {
        StrandRuntime x = writers();
        x.run(8);
        Due.is("runs", x.count(4), 0);
        x.quantum(3);
        Due.is("still runs", x.count(4), 0);
        x.run(1);
        Due.is("its turn is over with the next step", x.count(4), 1);
        x.run(2);
        x.quantum(5);
        x.run(2);
        Due.is("runs", x.count(4), 1);
        x.run(1);
        Due.is("runs", x.count(4), 2);
    }

    private static void yielding() {
        StrandRuntime x = Due.begun("fn 0 0; push 1; spawn 1; push 2; spawn 1; push 0; write; yield; jump 4;"
            + " fn 1 1; local 0; write; yield; jump 0");
        x.run(7);
        Due.is("runs", x.count(4), 1);
        x.run(3);
        Due.is("runs", x.count(4), 2);
        x.run(3);
        Due.is("runs", x.count(4), 0);
        x.run(400);
        for (int i = 0; i < 60; i++) {
            Due.is("written " + i, x.take(), i % 3);
        }
        StrandRuntime alone = Due.begun("fn 0 0; yield; jump 0");
        alone.run(1);
        Due.is("alone", alone.count(4), 0);
        Due.is("alone", alone.state(), 1);
    }

    private static void madeReadyBeforeRunner() {
        // Main's turn is over with the step that makes strand 1, and with the one that it sends by.
        StrandRuntime x = Due.begun("fn 0 1; channel 0; setglobal 0; spawn 1; global 0; push 5; send; push 0; write; jump 6;"
            + " fn 0 0; global 0; receive; pop; write; jump 0");
        x.quantum(3);
        x.run(3);
        Due.is("the new strand runs", x.count(4), 1);
        x.run(2);
        Due.is("main runs", x.count(4), 0);
        x.run(3);
        Due.is("who received runs", x.count(4), 1);
        x.run(2);
        Due.is("written", x.take(), 5);
    }

    private static void numbersAreTakenAgain() {
        StrandRuntime x = Due.begun("fn 0 0; push 3; spawn 1; push 1; spawn 1; push 2; spawn 1; yield; yield;"
            + " push 0; spawn 2; yield; push 0; spawn 2; yield; push 0; spawn 2; yield; jump 17;"
            + " fn 1 1; local 0; push 3; less; jumpzero 6; local 0; return; yield; jump 6;"
            + " fn 1 1; yield; jump 0");
        x.run(25);
        Due.is("strand 1", x.strand(1, 0), 1);
        Due.is("strand 2", x.strand(2, 0), 5);
        Due.is("strand 2 returned", x.strand(2, 6), 1);
        Due.is("strand 3", x.strand(3, 0), 5);
        Due.is("strand 3 returned", x.strand(3, 6), 2);
        Due.is("made", x.count(1), 4);
        Due.is("there", x.count(2), 2);
        x.run(2);
        x.run(100);
        Due.is("strand 2 again", x.strand(2, 0), 1);
        Due.is("its function", x.strand(2, 2), 2);
        Due.is("strand 2 has not returned", x.strand(2, 6), 0);
        Due.is("strand 3 again", x.strand(3, 2), 2);
        Due.is("strand 4", x.strand(4, 2), 2);
        Due.is("strand 5 never was", x.strand(5, 0), 0);
        Due.is("made", x.count(1), 7);
        Due.is("there", x.count(2), 5);
    }

    private static void tooManyStrands() {
        StrandRuntime x = Due.ran("fn 0 1; spawn 1; local 0; push 1; add; setlocal 0; local 0; write; jump 0;"
            + " fn 0 0; yield; jump 0");
        Due.is("state", x.state(), 3);
        Due.is("panic", x.strand(0, 6), -3);
        Due.is("made", x.count(1), 16);
        Due.is("there", x.count(2), 15);
        Due.is("written", x.count(3), 15);
        Due.is("strand 15", x.strand(15, 0), 1);
        Due.is("runs", x.count(4), -1);
    }

    private static void mainEnds() {
        StrandRuntime x = Due.ran("fn 0 0; spawn 1; yield; push 8; return; fn 0 0; push 4; push 4; jump 0");
        Due.is("state", x.state(), 2);
        Due.is("main", x.strand(0, 0), 5);
        Due.is("main returned", x.strand(0, 6), 8);
        Due.is("strand 1", x.strand(1, 0), 1);
        Due.is("there", x.count(2), 1);
        Due.is("runs", x.count(4), -1);
        // Main waits to send, and ends as another strand closes the channel.
        StrandRuntime y = Due.ran("fn 0 0; channel 0; setglobal 0; spawn 1; global 0; push 1; send; push 0; return;"
            + " fn 0 0; global 0; close; push 5; write; jump 2");
        Due.is("state", y.state(), 3);
        Due.is("panic", y.strand(0, 6), -4);
        Due.is("steps", y.count(0), 8);
        Due.is("written", y.count(3), 0);
        Due.is("strand 1", y.strand(1, 0), 1);
        Due.is("strand 1's place", y.strand(1, 3), 2);
        Due.is("strand 1's operands", y.strand(1, 4), 0);
        Due.is("runs", y.count(4), -1);
    }

    private static void allWait() {
        StrandRuntime x = Due.ran("fn 0 0; spawn 1; spawn 2; nil; push 6; send; push 0; return;"
            + " fn 0 0; nil; receive; jump 0; fn 0 0; nil; push 0; nil; select 1; jump 0");
        Due.is("state", x.state(), 4);
        Due.is("steps", x.count(0), 11);
        Due.is("runs", x.count(4), -1);
        Due.is("there", x.count(2), 3);
        for (int s = 0; s < 3; s++) {
            Due.is("strand " + s, x.strand(s, 0), 2 + s);
        }
        Due.is("main's place", x.strand(0, 3), 5);
        Due.is("main's operands", x.strand(0, 4), 2);
        Due.is("strand 1's operands", x.strand(1, 4), 1);
        Due.is("strand 2's operands", x.strand(2, 4), 3);
        Due.refusesState("run", () -> x.run(1));
        // The last strand that did not wait ends.
        StrandRuntime y = Due.ran("fn 0 0; spawn 1; nil; receive; jump 0; fn 0 0; push 3; panic");
        Due.is("state", y.state(), 4);
        Due.is("strand 1", y.strand(1, 0), 6);
        Due.is("strand 1's panic", y.strand(1, 6), 3);
        Due.is("there", y.count(2), 1);
    }

    private static void endsOfStrands() {
        StrandRuntime x = Due.ran("fn 0 0; spawn 1; spawn 2; spawn 3; spawn 4; yield; yield; yield; push 65536;"
            + " double; mul; push 9; add; return;"
            + " fn 0 0; push -5; return; fn 0 0; push 1; panic; fn 0 0; tuple 0; return; fn 0 0; nil; return");
        Due.is("main returned the low bits", x.strand(0, 6), 9);
        int[][] due = {{5, -5}, {6, 1}, {5, 0}, {5, 0}};
        for (int s = 1; s <= 4; s++) {
            Due.is("strand " + s, x.strand(s, 0), due[s - 1][0]);
            Due.is("strand " + s + " ended with", x.strand(s, 6), due[s - 1][1]);
            for (int what = 1; what <= 5; what++) {
                Due.is("strand " + s + " " + what, x.strand(s, what), 0);
            }
        }
        Due.is("what an ended strand returned is not reached", x.count(5), 0);
    }
}
