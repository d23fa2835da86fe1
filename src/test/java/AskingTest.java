/** What a call leaves as it was: who asks, collects or is refused between steps sees what one sees who does not. */
public final class AskingTest {
    private static final String[] PROGRAMS = {
        // Strands that send to one another, one of them by select.
        "fn 0 1; channel 0; setlocal 0; local 0; spawn 1; local 0; spawn 1; local 0; spawn 2;"
            + " a:; local 0; push 0; nil; nil; push 1; push 5; select 2; write; write; jump a;"
            + "fn 1 2; b:; local 0; local 1; send; local 1; push 1; add; setlocal 1; jump b;"
            + "fn 1 1; c:; yield; local 0; push 0; push 0; select 9; pop; pop; jump c;",
        // Garbage of tuples in tuples, and a ring that stays.
        "fn 0 1; tuple 2; setglobal 0; global 0; global 0; set 1;"
            + " a:; tuple 3; setlocal 0; local 0; tuple 9; set 2; global 0; local 0; set 0;"
            + " global 0; get 0; get 2; size; write; channel 4; pop; jump a;",
        // Deferred calls, and a panic in the place of another that is recovered.
        "fn 0 1; push 4; setlocal 0; a:; local 0; call 1; write; local 0; push 1; sub; setlocal 0; jump a;"
            + "fn 1 1; tuple 1; defer 2; local 0; defer 3; push 9; local 0; div; return;"
            + "fn 1 1; recover; setglobal 3; push 0; return;"
            + "fn 1 1; local 0; jumpzero p; push 0; return; p:; push -77; panic;",
        // Main waits for ever while another goes on, which ends.
        "fn 0 0; push 0; spawn 1; nil; receive; return;"
            + "fn 1 1; a:; local 0; push 1; add; double; setlocal 0; push 30; less; iszero; jumpzero a; nil; return;",
    };

    private AskingTest() {
    }

    public static void main(String[] args) {
        for (int i = 0; i < PROGRAMS.length; i++) {
            for (int pace = 0; pace <= 50; pace += 10) {
                askedAfterEachStep("program " + i + " with pace " + pace, PROGRAMS[i], pace);
            }
        }
        Due.end("AskingTest");
    }

    private static void askedAfterEachStep(String name, String text, int pace) {
        StrandRuntime asked = Due.begun(text);
        StrandRuntime left = Due.begun(text);
        asked.pace(pace);
        left.pace(pace);
        int steps = 0;
        while (steps < 700 && asked.state() == 1) {
            asked.run(1);
            steps++;
            askAll(name, asked, steps);
        }
        Due.is(name + ": steps at once", left.run(700), steps);
        Due.sameText(name + ": what stands", Due.standing(asked), Due.standing(left));
        for (int i = left.count(3); i >= 0; i--) {
            Due.is(name + ": taken", asked.take(), left.take());
        }
    }

    private static void askAll(String name, StrandRuntime x, int steps) {
        String before = Due.standing(x);
        if (steps % 3 == 0) {
            Due.is(name + ": collected", x.collect(), x.count(5));
        }
        Due.refusesArgument("function", () -> x.function(0, 13));
        Due.refusesState("function", () -> x.function(0, 0));
        Due.refusesState("code", () -> x.code(0, 0));
        Due.refusesArgument("begin", () -> x.begin(32));
        Due.refusesArgument("quantum", () -> x.quantum(101));
        Due.refusesArgument("pace", () -> x.pace(-1));
        Due.refusesArgument("run", () -> x.run(1001));
        Due.refusesIndex("strand", () -> x.strand(-1, 0));
        Due.refusesIndex("operand", () -> x.operand(0, 16));
        Due.refusesIndex("kind", () -> x.kind(16, 0));
        Due.refusesArgument("count", () -> x.count(36));
        Due.sameText(name + ": what stands behind step " + steps, Due.standing(x), before);
    }
}
