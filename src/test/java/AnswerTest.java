/** What is asked of a run: take, strand, operand, kind and count, with wrong arguments and at their edges. */
public final class AnswerTest {
    private AnswerTest() {
    }

    public static void main(String[] args) {
        taking();
        keptNumbers();
        keptWhileTaken();
        strandRefuses();
        operandsAndKinds();
        countRefuses();
        countsOfGlobals();
        Due.end("AnswerTest");
    }

    private static void taking() {
        StrandRuntime x = Due.begun("fn 0 0; push 4; write; push 5; write; push 0; write; push 6; write; push 0; return");
        Due.is("nothing written", x.take(), 0);
        x.run(2);
        Due.is("can be taken", x.count(3), 1);
        Due.is("take", x.take(), 4);
        Due.is("can be taken", x.count(3), 0);
        Due.is("take", x.take(), 0);
        x.run(100);
        Due.is("can be taken", x.count(3), 3);
        Due.is("take", x.take(), 5);
        Due.is("take", x.take(), 0);
        Due.is("take", x.take(), 6);
        Due.is("take", x.take(), 0);
    }

    private static StrandRuntime counter() {
        return Due.begun("fn 0 1; local 0; push 1; add; double; setlocal 0; write; jump 0");
    }

    private static void keptNumbers() {
        StrandRuntime x = counter();
        for (int i = 0; i < 14; i++) {
            x.run(1000);
        }
        Due.is("exactly 2000", x.count(3), 2000);
        x.run(1000);
        Due.is("more are lost", x.count(3), 2000);
        for (int i = 1; i <= 300; i++) {
            Due.is("take", x.take(), i);
        }
        Due.is("left", x.count(3), 1700);
        // 15000 steps wrote 2142 numbers and left the next one to be written.
        x.run(70);
        Due.is("ten more", x.count(3), 1710);
        for (int i = 301; i <= 480; i++) {
            Due.is("take", x.take(), i);
        }
    }

    private static void keptWhileTaken() {
        StrandRuntime x = Due.begun("fn 0 1; local 0; push 1; add; double; setlocal 0; write; local 0; push 2003; less; jumpzero 11; jump 0;"
            + " push 0; return");
        while (x.state() == 1) {
            x.run(1000);
        }
        Due.is("kept", x.count(3), 2000);
        for (int i = 1; i <= 2000; i++) {
            Due.is("take", x.take(), i);
        }
        Due.is("the rest is lost", x.take(), 0);
        Due.is("kept", x.count(3), 0);
    }

    private static void strandRefuses() {
        StrandRuntime x = Due.begun("fn 0 0; jump 0");
        for (int s : new int[] {-1, 16, Integer.MIN_VALUE, Integer.MAX_VALUE}) {
            Due.refusesIndex("strand(" + s + ", 0)", () -> x.strand(s, 0));
            Due.refusesIndex("strand(" + s + ", 7)", () -> x.strand(s, 7));
            Due.refusesIndex("operand(" + s + ", 0)", () -> x.operand(s, 0));
            Due.refusesIndex("kind(" + s + ", 0)", () -> x.kind(s, 0));
        }
        for (int what : new int[] {-1, 7, Integer.MIN_VALUE, Integer.MAX_VALUE}) {
            Due.refusesArgument("strand(0, " + what + ")", () -> x.strand(0, what));
            Due.refusesArgument("strand(15, " + what + ")", () -> x.strand(15, what));
        }
        Due.is("strand 15", x.strand(15, 0), 0);
        Due.is("strand 0", x.strand(0, 0), 1);
        StrandRuntime y = new StrandRuntime();
        Due.refusesIndex("operand without a run", () -> y.operand(0, 0));
        Due.refusesArgument("strand without a run", () -> y.strand(0, 7));
    }

    private static void operandsAndKinds() {
        StrandRuntime x = Due.begun("fn 0 0; push 65536; double; mul; nil; tuple 2; channel 3; push -1; call 1; return;"
            + " fn 0 0; push 8; jump 1");
        x.run(7);
        long[] numbers = {-1, 0, 0, 0, 4294967296L};
        int[] kinds = {0, 3, 2, 1, 0};
        Due.is("operands", x.strand(0, 4), 5);
        for (int k = 0; k < 5; k++) {
            Due.is("operand " + k, x.operand(0, k), numbers[k]);
            Due.is("kind " + k, x.kind(0, k), kinds[k]);
        }
        for (int k : new int[] {-1, 5, Integer.MIN_VALUE, Integer.MAX_VALUE}) {
            Due.refusesIndex("operand(0, " + k + ")", () -> x.operand(0, k));
            Due.refusesIndex("kind(0, " + k + ")", () -> x.kind(0, k));
        }
        Due.refusesIndex("operand of a strand that never was", () -> x.operand(1, 0));
        x.run(1);
        Due.refusesIndex("operand of a new frame", () -> x.operand(0, 0));
        x.run(1);
        Due.is("operand of the last frame", x.operand(0, 0), 8);
        Due.refusesIndex("operand of the frame below", () -> x.operand(0, 1));
        StrandRuntime over = Due.ran("fn 0 0; push 1; push 2; return");
        Due.refusesIndex("operand of a strand that ended", () -> over.operand(0, 0));
        Due.refusesIndex("kind of a strand that ended", () -> over.kind(0, 0));
    }

    private static void countRefuses() {
        StrandRuntime x = Due.begun("fn 0 0; jump 0");
        for (int what : new int[] {-1, 8, 9, 19, 36, 37, Integer.MIN_VALUE, Integer.MAX_VALUE}) {
            Due.refusesArgument("count(" + what + ")", () -> x.count(what));
        }
        for (int what = 0; what < 36; what++) {
            if (what < 8 || what >= 20) {
                Due.is("count " + what, x.count(what), what == 1 || what == 2 ? 1 : 0);
            }
        }
    }

    private static void countsOfGlobals() {
        StrandRuntime x = Due.ran("fn 0 0; push 65536; double; mul; push 3; add; setglobal 0; push -2; setglobal 15;"
            + " tuple 1; setglobal 1; nil; setglobal 2; channel 0; setglobal 3; push 0; return");
        Due.is("low bits", x.count(20), 3);
        Due.is("global 15", x.count(35), -2);
        for (int g = 1; g <= 3; g++) {
            Due.is("a reference", x.count(20 + g), 0);
        }
    }
}
