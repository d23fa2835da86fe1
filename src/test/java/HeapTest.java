/** The heap: cells and panic -5, what is reached, digest, collect and check, and that the pace changes no answer. */
public final class HeapTest {
    private HeapTest() {
    }

    public static void main(String[] args) {
        cellsOfObjects();
        fullHeap();
        fullOfSmallest();
        fullOfGarbage();
        roots();
        deepChains();
        digests();
        digestOfRings();
        collecting();
        paceChangesNothing();
        movedWhileMarked();
        receivedWhileMarked();
        Due.end("HeapTest");
    }

    private static void cellsOfObjects() {
        for (int n = 0; n <= 16; n++) {
            StrandRuntime x = Due.begun("fn 0 0; tuple " + n + "; jump 1");
            x.run(1);
            Due.is("objects", x.count(5), 1);
            Due.is("cells of a tuple of " + n, x.count(6), 2 + n);
            Due.is("made", x.count(7), 1);
        }
        for (int n = 0; n <= 8; n++) {
            StrandRuntime x = Due.begun("fn 0 0; channel " + n + "; jump 1");
            x.run(1);
            Due.is("cells of a channel of " + n, x.count(6), 3 + n);
        }
    }

    /** Binds tuples of n values in a chain from global 0 until there are no cells, then one more thing. */
    private static StrandRuntime filled(int n, int pace, String then) {
        StrandRuntime x = new StrandRuntime();
        x.pace(pace);
        Due.load(x, "fn 0 0; call 1; pop; " + then + "; push 0; return;"
            + " fn 0 0; push 0; defer 2; tuple " + n + "; double; global 0; set 0; setglobal 0; jump 2;"
            + " fn 1 1; recover; write; push 0; return");
        x.begin(0);
        for (int i = 0; i < 20 && x.state() == 1; i++) {
            x.run(1000);
            Due.is("check", x.check(), 0);
        }
        return x;
    }

    private static void fullHeap() {
        for (int pace : new int[] {0, 1, 7, 50}) {
            StrandRuntime x = filled(2, pace, "push 1; write");
            Due.written("full", x, -5, 1);
            Due.is("objects", x.count(5), 300);
            Due.is("cells", x.count(6), 1200);
            Due.is("made", x.count(7), 300);
            Due.is("collect", x.collect(), 300);
            StrandRuntime y = filled(16, pace, "tuple 10; push 4; write; channel 0");
            Due.is("1188 cells and 12, then 3 more", y.strand(0, 6), -5);
            Due.written("full", y, -5, 4);
            Due.is("objects", y.count(5), 66);
            Due.is("made", y.count(7), 67);
            StrandRuntime z = filled(16, pace, "tuple 11");
            Due.is("1188 cells and 13", z.strand(0, 6), -5);
            StrandRuntime w = filled(16, pace, "channel 8; channel 0");
            Due.is("1188 cells and 11 and 3", w.strand(0, 6), -5);
            Due.is("made", w.count(7), 67);
            StrandRuntime v = filled(16, pace, "channel 8; pop; tuple 10");
            Due.is("what was popped is not reached", v.state(), 2);
        }
        // Operands are looked at first: there is no place to push it.
        StrandRuntime x = filled(2, 5, "push 1; double; double; double; double; double; double; double; double; double; double;"
            + " double; double; double; double; double; tuple 0");
        Due.is("panic", x.strand(0, 6), -3);
    }

    private static void fullOfSmallest() {
        // Eight tuples of no values in a tuple of eight, and the next such: 10 cells and 7 times 2 each.
        StrandRuntime x = Due.ran("fn 0 2; next:; tuple 8; setlocal 0; local 0; global 0; set 0; local 0; setglobal 0;"
            + " push 1; setlocal 1; fill:; local 0; local 1; tuple 0; setat; local 1; push 1; add; double; setlocal 1;"
            + " push 8; less; jumpzero next; jump fill");
        Due.is("panic", x.strand(0, 6), -5);
        Due.is("cells", x.count(6), 1200);
        Due.is("objects", x.count(5), 50 * 8);
        Due.is("check", x.check(), 0);
        // The like with channels of 8 that hold them: 11 cells and 7 times 2 each.
        StrandRuntime y = Due.ran("fn 0 2; next:; channel 8; setlocal 0; local 0; global 0; send; local 0; setglobal 0;"
            + " push 1; setlocal 1; fill:; local 0; tuple 0; send; local 1; push 1; add; double; setlocal 1;"
            + " push 8; less; jumpzero next; jump fill");
        Due.is("panic", y.strand(0, 6), -5);
        Due.is("cells", y.count(6), 1200);
        Due.is("objects", y.count(5), 48 * 8);
        Due.is("check", y.check(), 0);
        // As many objects as there can be: 599 of two cells each would leave two for one more.
        StrandRuntime z = Due.begun("fn 0 0; tuple 0; pop; jump 0");
        z.pace(0);
        z.run(1000);
        z.run(798);
        Due.is("made", z.count(7), 600);
        z.run(1);
        Due.is("made", z.count(7), 600);
        z.run(2);
        Due.is("made", z.count(7), 601);
        Due.is("check", z.check(), 0);
    }

    private static void fullOfGarbage() {
        for (int pace : new int[] {0, 2, 50}) {
            StrandRuntime x = Due.begun("fn 0 0; tuple 16; pop; channel 8; setglobal 3; jump 0");
            x.pace(pace);
            for (int i = 0; i < 20; i++) {
                Due.is("run", x.run(1000), 1000);
                Due.is("check", x.check(), 0);
            }
            Due.is("made", x.count(7), 8000);
            Due.is("objects", x.count(5), 1);
            Due.is("cells", x.count(6), 11);
            Due.is("collect", x.collect(), 1);
        }
    }

    private static void roots() {
        String[][] cases = {
            {"global", "tuple 1; setglobal 7", "1"},
            {"local", "tuple 1; setlocal 1", "1"},
            {"operand", "tuple 1; push 0", "1"},
            {"deferred", "tuple 1; defer 1", "1"},
            {"nothing", "tuple 1; pop", "0"},
            {"a tuple", "tuple 1; double; tuple 2; set 0", "2"},
            {"a channel that holds it", "channel 1; double; tuple 2; send", "2"},
            {"a caller", "tuple 1; push 0; call 2", "1"},
            {"one that sends", "channel 0; tuple 2; send", "2"},
            {"one that selects", "nil; push 1; tuple 2; select 1", "1"},
            {"a new strand", "tuple 1; spawn 1", "1"}};
        for (String[] c : cases) {
            StrandRuntime x = Due.begun("fn 0 2; " + c[1] + "; on:; yield; jump on; fn 1 1; yield; jump 0; fn 0 0; yield; jump 0");
            x.run(12);
            Due.is("reached by " + c[0], x.count(5), Integer.parseInt(c[2]));
            Due.is("collect of " + c[0], x.collect(), Integer.parseInt(c[2]));
            Due.is("check of " + c[0], x.check(), 0);
        }
        // A value that is returned, and then lost as a deferred call panics.
        StrandRuntime x = Due.begun("fn 0 0; call 1; return; fn 0 0; push 4; defer 3; push 5; defer 2; tuple 1; return;"
            + " fn 1 1; push 0; pop; push 6; panic; fn 1 1; push 0; jump 1");
        x.run(8);
        Due.is("waits for deferred calls", x.count(5), 1);
        x.run(3);
        Due.is("function", x.strand(0, 2), 3);
        Due.is("lost", x.count(5), 0);
    }

    private static void deepChains() {
        StrandRuntime x = filled(1, 5, "push 1; write");
        Due.is("objects", x.count(5), 400);
        long due = 7;
        for (int i = 0; i < 400; i++) {
            due = 31 * (31 * due + 3) + 1;
        }
        for (int i = 0; i < 16; i++) {
            due = 31 * due;
        }
        Due.is("digest", x.digest(), due);
    }

    private static long sum(long... items) {
        long sum = 7;
        for (long item : items) {
            sum = 31 * sum + item;
        }
        return sum;
    }

    private static void digests() {
        StrandRuntime x = Due.ran("fn 0 2; push -9; setglobal 0; nil; setglobal 1; tuple 3; setlocal 0; channel 4; setlocal 1;"
            + " local 0; push 5; set 0; local 0; local 1; set 1; local 0; nil; set 2;"
            + " local 1; push 8; send; local 1; local 0; send; local 1; tuple 0; send;"
            + " local 1; setglobal 2; local 0; setglobal 4; tuple 0; setglobal 5; push 77; setglobal 15; push 0; return");
        Due.is("digest", x.digest(), sum(-9, 1, 4, 3, 8, 3, 3, 5, 2, 1, 1, 3, 0, 0, 2, 2, 3, 0,
            0, 0, 0, 0, 0, 0, 0, 0, 0, 77));
        Due.is("digest again", x.digest(), x.digest());
    }

    private static void digestOfRings() {
        StrandRuntime x = Due.ran("fn 0 2; tuple 2; setlocal 0; local 0; local 0; set 1; local 0; setglobal 0;"
            + " channel 1; setlocal 1; local 1; local 1; send; local 1; setglobal 1; local 0; setglobal 2; push 0; return");
        Due.is("digest", x.digest(), sum(3, 2, 0, 2, 1, 4, 1, 2, 2, 2, 1, 0, 0, 0, 0, 0, 0, 0, 0, 0, 0, 0, 0, 0));
        StrandRuntime y = Due.ran("fn 0 1; tuple 2; setlocal 0; local 0; setglobal 0; push 0; return");
        StrandRuntime z = Due.ran("fn 0 1; tuple 9; pop; tuple 2; setlocal 0; tuple 1; pop; local 0; setglobal 0; push 0; return");
        Due.is("no matter which object it is", y.digest(), z.digest());
    }

    private static void collecting() {
        StrandRuntime x = Due.begun("fn 0 1; tuple 2; pop; tuple 3; setlocal 0; tuple 4; pop; jump 4");
        x.pace(0);
        x.run(60);
        Due.is("made", x.count(7), 21);
        Due.is("collect", x.collect(), 1);
        Due.is("collect again", x.collect(), 1);
        Due.is("made", x.count(7), 21);
        Due.is("objects", x.count(5), 1);
        Due.is("steps", x.count(0), 60);
        Due.is("run goes on", x.run(30), 30);
        // A collection while a round of marking goes on.
        x.pace(1);
        for (int i = 0; i < 300; i++) {
            x.run(1 + i % 7);
            if (i % 3 == 0) {
                Due.is("collect", x.collect(), x.count(5));
            }
            Due.is("check", x.check(), 0);
        }
    }

    /** Strands that send tuples round through channels, with a list that grows and shrinks. */
    private static StrandRuntime busy(int pace) {
        StrandRuntime x = new StrandRuntime();
        x.pace(pace);
        Due.load(x, "fn 0 2; channel 3; setglobal 0; channel 0; setglobal 1; spawn 1; spawn 2; spawn 2;"
            + " more:; global 1; receive; pop; get 1; write; jump more;"
            + " fn 0 2; tuple 6; setlocal 0; local 0; global 2; set 0; local 0; local 1; set 1; local 0; setglobal 2;"
            + " local 1; push 1; add; setlocal 1; local 1; push 50; less; jumpzero drop; global 0; local 0; send; jump 0;"
            + " drop:; nil; setglobal 2; push 0; setlocal 1; jump 0;"
            + " fn 0 1; global 0; receive; pop; setlocal 0; global 1; local 0; send; tuple 2; pop; jump 0");
        x.begin(0);
        return x;
    }

    private static void paceChangesNothing() {
        int[] paces = {0, 1, 2, 3, 5, 11, 50};
        StrandRuntime[] all = new StrandRuntime[paces.length];
        for (int i = 0; i < paces.length; i++) {
            all[i] = busy(paces[i]);
        }
        for (int round = 0; round < 40; round++) {
            for (int i = 0; i < paces.length; i++) {
                Due.is("run", all[i].run(97), 97);
                Due.is("check", all[i].check(), 0);
                Due.is("digest", all[i].digest(), all[0].digest());
                Due.is("objects", all[i].count(5), all[0].count(5));
                Due.is("cells", all[i].count(6), all[0].count(6));
                Due.is("made", all[i].count(7), all[0].count(7));
                Due.is("written", all[i].count(3), all[0].count(3));
            }
        }
        Due.is("much was written", all[0].count(3) > 50 ? 1 : 0, 1);
    }

    /** Moves a list from one tuple to another link by link, so that links come behind what was marked already. */
    private static void movedWhileMarked() {
        for (int pace = 1; pace <= 12; pace++) {
            StrandRuntime x = Due.begun("fn 0 1; tuple 1; setglobal 0; tuple 1; setglobal 1; push 60; setlocal 0;"
                + " build:; tuple 2; setlocal 0; local 0; global 0; get 0; set 0; global 0; local 0; set 0;"
                + " global 2; push 1; add; double; setglobal 2; push 60; less; jumpzero move; jump build;"
                + " move:; global 0; get 0; double; setlocal 0; jumpzero turn;"
                + " global 0; local 0; get 0; set 0; local 0; global 1; get 0; set 0; global 1; local 0; set 0;"
                + " tuple 4; pop; jump move;"
                + " turn:; global 0; global 1; setglobal 0; setglobal 1; jump move");
            x.pace(pace);
            for (int i = 0; i < 130; i++) {
                x.run(61);
                Due.is("check while a list moves, pace " + pace, x.check(), 0);
            }
            Due.is("state", x.state(), 1);
            Due.is("links and ends are there", x.count(5) >= 62 ? 1 : 0, 1);
        }
    }

    /** Receives what a channel holds before marking has come to the channel, and keeps it as a local alone. */
    private static void receivedWhileMarked() {
        for (int pace = 1; pace <= 12; pace++) {
            StrandRuntime x = Due.begun("fn 0 2; channel 8; setglobal 0; push 8; setlocal 0;"
                + " fill:; global 0; tuple 2; send; local 0; push 1; sub; double; setlocal 0; jumpzero chain; jump fill;"
                + " chain:; tuple 2; double; global 1; set 0; setglobal 1; local 1; push 1; add; double; setlocal 1; push 50; less;"
                + " jumpzero move; jump chain;"
                + " move:; global 0; receive; pop; setlocal 0; push 7; setlocal 1;"
                + " waste:; tuple 3; pop; local 1; push 1; sub; double; setlocal 1; jumpzero back; jump waste;"
                + " back:; global 0; local 0; send; jump move");
            x.pace(pace);
            for (int i = 0; i < 400; i++) {
                x.run(13);
                Due.is("check while a channel is received from, pace " + pace, x.check(), 0);
            }
            Due.is("state", x.state(), 1);
            Due.is("all tuples are there", x.collect() >= 59 ? 1 : 0, 1);
        }
    }
}
