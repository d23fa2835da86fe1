/** Sending, receiving, closing and selecting; seen through run, take, strand, operand and kind. */
public final class ChannelTest {
    private static final String IDLE = "yield; yield; yield; yield; yield; yield; yield; yield; push 0; return;";

    private ChannelTest() {
    }

    public static void main(String[] args) {
        held();
        wrongChannels();
        closed();
        waitingOperands();
        longestWaitsFirst();
        heldThenWaiting();
        nilWaits();
        closeTellsWaiting();
        closeEndsSendersInOrder();
        selectChoosesFirst();
        selectWithoutWaiting();
        selectWaits();
        selectIsSentTo();
        selectOnOneChannelTwice();
        selectAndClose();
        selectRefuses();
        Due.end("ChannelTest");
    }

    private static void panics(String body, int due) {
        StrandRuntime x = Due.ran("fn 0 3; " + body + "; push 0; return");
        Due.is(body + ": state", x.state(), 3);
        Due.is(body + ": panic", x.strand(0, 6), due);
    }

    private static void writes(String body, long... due) {
        StrandRuntime x = Due.ran("fn 0 3; " + body + "; push 0; return");
        Due.is(body + ": state", x.state(), 2);
        Due.written(body, x, due);
    }

    private static void held() {
        writes("channel 3; setlocal 0; local 0; push 5; send; local 0; push 6; send; local 0; nil; send;"
            + " local 0; receive; write; write; local 0; receive; write; write; local 0; receive; write; iszero; write",
            1, 5, 1, 6, 1, 1);
        StrandRuntime x = Due.ran("fn 0 1; channel 2; setlocal 0; local 0; push 1; send; local 0; push 2; send;"
            + " local 0; push 3; send; push 0; return");
        Due.is("a third one waits", x.state(), 4);
        Due.is("main sends", x.strand(0, 0), 2);
    }

    private static void wrongChannels() {
        for (String wrong : new String[] {"push 0", "push 2", "tuple 2"}) {
            panics(wrong + "; push 1; send", -2);
            panics(wrong + "; receive", -2);
            panics(wrong + "; close", -2);
        }
        panics("nil; close", -4);
    }

    private static void closed() {
        panics("channel 1; double; close; push 1; send", -4);
        panics("channel 0; double; close; push 1; send", -4);
        panics("channel 1; double; close; close", -4);
        writes("channel 2; setlocal 0; local 0; push 5; send; local 0; close; local 0; size; write;"
            + " local 0; receive; write; write; local 0; receive; write; write; local 0; receive; write; write",
            1, 1, 5, 0, 0, 0, 0);
    }

    private static void waitingOperands() {
        StrandRuntime x = Due.begun("fn 0 0; channel 0; setglobal 0; spawn 1; spawn 2; yield; yield; push 3; pop; jump 5;"
            + " fn 0 0; push 9; global 0; tuple 1; send; jump 4;"
            + " fn 0 0; push 8; global 0; receive; jump 3");
        x.quantum(100);
        x.run(9);
        Due.is("strand 1 sends", x.strand(1, 0), 2);
        Due.is("its operands", x.strand(1, 4), 3);
        Due.is("its place", x.strand(1, 3), 4);
        Due.is("what it sends", x.kind(1, 0), 2);
        Due.is("where to", x.kind(1, 1), 3);
        Due.is("below", x.operand(1, 2), 9);
        Due.is("what it sends is reached", x.count(5), 2);
        x.run(3);
        Due.is("strand 1 is ready", x.strand(1, 0), 1);
        Due.is("its operands", x.strand(1, 4), 1);
        Due.is("below", x.operand(1, 0), 9);
        Due.is("strand 2 has received", x.strand(2, 0), 1);
        Due.is("its operands", x.strand(2, 4), 3);
        Due.is("the flag", x.operand(2, 0), 1);
        Due.is("the value", x.kind(2, 1), 2);
        Due.is("below", x.operand(2, 2), 8);
        Due.is("it still runs", x.count(4), 2);
        // The other way round: a receiver waits.
        StrandRuntime y = Due.begun("fn 0 0; channel 0; setglobal 0; spawn 1; yield; global 0; nil; send; jump 7;"
            + " fn 0 0; push 8; global 0; receive; jump 3");
        y.run(7);
        Due.is("strand 1 receives", y.strand(1, 0), 3);
        Due.is("its operands", y.strand(1, 4), 2);
        Due.is("its place", y.strand(1, 3), 3);
        Due.is("main runs", y.count(4), 0);
        y.run(3);
        Due.is("main still runs", y.count(4), 0);
        Due.is("main's operands", y.strand(0, 4), 0);
        Due.is("strand 1 is ready", y.strand(1, 0), 1);
        Due.is("its operands", y.strand(1, 4), 3);
        Due.is("the flag", y.operand(1, 0), 1);
        Due.is("the value", y.kind(1, 1), 1);
    }

    private static void longestWaitsFirst() {
        // Strand 2 waits before strand 1 does.
        StrandRuntime x = Due.ran("fn 0 0; channel 0; setglobal 0; push 1; spawn 1; push 2; spawn 2; yield; yield; yield;"
            + " global 0; receive; pop; write; global 0; receive; pop; write; push 0; return;"
            + " fn 1 1; yield; yield; global 0; local 0; send; jump 4; fn 1 1; global 0; local 0; send; jump 3");
        Due.written("senders", x, 2, 1);
        StrandRuntime y = Due.ran("fn 0 0; channel 0; setglobal 0; push 1; spawn 1; push 2; spawn 2; yield; yield; yield;"
            + " global 0; push 7; send; global 0; push 8; send; " + IDLE
            + " fn 1 1; yield; yield; global 0; receive; pop; local 0; write; write; push 0; return;"
            + " fn 1 1; global 0; receive; pop; local 0; write; write; push 0; return");
        Due.written("receivers", y, 2, 7, 1, 8);
        // A sender of 28 and one that selects wait in one line.
        StrandRuntime z = Due.ran("fn 0 0; channel 0; setglobal 0; spawn 1; spawn 2; spawn 1; yield; yield;"
            + " global 0; receive; pop; write; global 0; receive; pop; write; global 0; receive; pop; write; push 0; return;"
            + " fn 0 0; global 0; push 1; send; jump 3; fn 0 0; global 0; push 1; push 2; select 1; jump 4");
        Due.written("both", z, 1, 2, 1);
    }

    private static void heldThenWaiting() {
        StrandRuntime x = Due.begun("fn 0 0; channel 2; setglobal 0; spawn 1; yield; global 0; size; write;"
            + " global 0; receive; pop; write; global 0; size; write; jump 14;"
            + " fn 0 1; local 0; push 1; add; setlocal 0; global 0; local 0; send; jump 0");
        x.quantum(100);
        x.run(27);
        Due.is("strand 1 sends", x.strand(1, 0), 2);
        x.run(4);
        Due.is("held", x.take(), 2);
        Due.is("strand 1 sends still", x.strand(1, 0), 2);
        x.run(1);
        Due.is("strand 1 goes on", x.strand(1, 0), 1);
        Due.is("strand 1's operands", x.strand(1, 4), 0);
        x.run(5);
        Due.is("first", x.take(), 1);
        Due.is("held again", x.take(), 2);
    }

    private static void nilWaits() {
        String[][] cases = {{"nil; push 1; send", "2"}, {"nil; receive", "3"}, {"nil; push 0; push 1; select 1", "4"},
            {"nil; push 1; push 1; nil; push 0; push 1; select 2", "4"}};
        for (String[] c : cases) {
            StrandRuntime x = Due.ran("fn 0 0; " + c[0] + "; push 0; return");
            Due.is(c[0] + ": state", x.state(), 4);
            Due.is(c[0] + ": main", x.strand(0, 0), Integer.parseInt(c[1]));
        }
    }

    private static void closeTellsWaiting() {
        StrandRuntime x = Due.ran("fn 0 0; channel 0; setglobal 0; channel 0; setglobal 1; push 1; spawn 1; push 2; spawn 1;"
            + " yield; yield; global 0; close; " + IDLE
            + " fn 1 1; global 0; receive; local 0; write; write; write; push 0; return");
        Due.written("receivers", x, 1, 0, 0, 2, 0, 0);
        StrandRuntime y = Due.ran("fn 0 0; channel 0; setglobal 0; channel 0; setglobal 1; spawn 1; yield; global 1; close; "
            + IDLE + " fn 0 0; global 0; receive; jump 2");
        Due.is("one that waits for another channel", y.strand(1, 0), 3);
    }

    private static void closeEndsSendersInOrder() {
        StrandRuntime x = Due.begun("fn 0 0; channel 0; setglobal 0; push 1; spawn 1; push 2; spawn 2; push 3; spawn 1;"
            + " yield; global 0; close; push 0; jump 11;"
            + " fn 1 1; local 0; defer 3; global 0; local 0; send; jump 5; fn 1 1; global 0; local 0; send; jump 3;"
            + " fn 1 1; local 0; write; recover; write; push 0; return");
        x.run(9 + 5 + 3 + 5);
        for (int s = 1; s <= 3; s++) {
            Due.is("strand " + s + " sends", x.strand(s, 0), 2);
        }
        x.run(2);
        Due.is("strand 1 has its deferred call", x.strand(1, 0), 1);
        Due.is("strand 1's frames", x.strand(1, 1), 2);
        Due.is("strand 1's function", x.strand(1, 2), 3);
        Due.is("strand 1's place", x.strand(1, 3), 0);
        Due.is("strand 2 has panicked", x.strand(2, 0), 6);
        Due.is("strand 2's panic", x.strand(2, 6), -4);
        Due.is("strand 3 has its deferred call", x.strand(3, 2), 3);
        Due.is("main runs on", x.count(4), 0);
        x.run(40);
        Due.written("deferred", x, 1, -4, 3, -4);
        Due.is("strand 1", x.strand(1, 0), 5);
        Due.is("strand 1 returned", x.strand(1, 6), 0);
    }

    private static void selectChoosesFirst() {
        String three = "channel 1; setglobal 0; channel 1; setglobal 1; channel 1; setglobal 2;";
        writes(three + "global 1; push 5; send; global 2; push 6; send; global 0; push 0; nil; global 1; push 0; nil;"
            + " global 2; push 0; nil; select 3; write; write", 1, 5);
        writes(three + "global 2; push 0; nil; global 1; push 3; push 8; global 0; push 0; nil; select 3; write; write;"
            + " global 1; receive; write; write", 1, 0, 1, 8);
        writes(three + "global 0; push -1; nil; select 1; write; write; global 0; size; write", 0, 0, 1);
        writes(three + "global 1; close; global 0; push 0; nil; nil; push 1; nil; global 1; push 0; push 4; select 3;"
            + " write; write", 2, 0);
        writes(three + "push 7; global 0; push 1; push 1; select 1; pop; pop; write", 7);
        panics(three + "global 1; close; global 0; push 0; nil; global 1; push 1; nil; select 2", -4);
        panics(three + "global 1; close; global 1; push 1; nil; select 9", -4);
        writes(three + "global 1; close; global 0; push 1; push 5; global 1; push 1; nil; select 2; write", 0);
    }

    private static void selectWithoutWaiting() {
        writes("channel 0; setlocal 0; local 0; push 0; nil; local 0; push 1; push 5; nil; push 0; nil; nil; push 1; nil;"
            + " select 12; write; write", -1, 0);
        writes("channel 1; setlocal 0; local 0; push 1; push 5; select 9; write; write; local 0; size; write", 0, 0, 1);
    }

    private static void selectWaits() {
        // A waiting select is taken from, then given to: its operands go, and two are pushed.
        StrandRuntime x = Due.begun("fn 0 0; channel 0; setglobal 0; channel 0; setglobal 1; spawn 1; yield;"
            + " global 1; receive; pop; write; push 0; jump 11;"
            + " fn 0 0; push 9; global 0; push 0; nil; global 1; push 1; push 6; select 2; jump 8");
        x.run(14);
        Due.is("strand 1 selects", x.strand(1, 0), 4);
        Due.is("its operands", x.strand(1, 4), 7);
        Due.is("its place", x.strand(1, 3), 8);
        x.run(4);
        Due.is("received", x.take(), 6);
        Due.is("strand 1 is ready", x.strand(1, 0), 1);
        Due.is("its operands", x.strand(1, 4), 3);
        Due.is("the case", x.operand(1, 0), 1);
        Due.is("nothing received", x.operand(1, 1), 0);
        Due.is("below", x.operand(1, 2), 9);
    }

    private static void selectIsSentTo() {
        StrandRuntime x = Due.begun("fn 0 0; channel 0; setglobal 0; channel 0; setglobal 1; spawn 1; yield;"
            + " global 1; tuple 2; send; push 0; jump 10;"
            + " fn 0 0; global 0; push 1; nil; nil; push 0; nil; global 1; push 0; nil; select 3; jump 10");
        x.run(16);
        Due.is("strand 1 selects", x.strand(1, 0), 4);
        x.run(3);
        Due.is("strand 1 is ready", x.strand(1, 0), 1);
        Due.is("its operands", x.strand(1, 4), 2);
        Due.is("the case", x.operand(1, 0), 2);
        Due.is("the value", x.kind(1, 1), 2);
    }

    private static void selectOnOneChannelTwice() {
        String waits = " fn 0 0; global 0; push 1; push 5; global 0; push 0; nil; global 0; push 0; nil; global 0; push 1;"
            + " push 6; select 4; write; write; push 0; return";
        StrandRuntime x = Due.ran("fn 0 0; channel 0; setglobal 0; spawn 1; yield; yield; global 0; receive; pop; write; "
            + IDLE + waits);
        Due.written("received from", x, 5, 0, 0);
        StrandRuntime y = Due.ran("fn 0 0; channel 0; setglobal 0; spawn 1; yield; yield; global 0; push 7; send; "
            + IDLE + waits);
        Due.written("sent to", y, 1, 7);
    }

    private static void selectAndClose() {
        String main = "fn 0 0; channel 0; setglobal 0; channel 0; setglobal 1; spawn 1; yield; yield; global 0; close; " + IDLE;
        StrandRuntime x = Due.ran(main
            + " fn 0 0; global 1; push 0; nil; global 0; push 0; nil; global 0; push 1; nil; select 3; write; write; push 0; return");
        Due.written("the first case of it receives", x, 1, 0);
        StrandRuntime y = Due.ran(main
            + " fn 0 0; global 1; push 0; nil; global 0; push 1; nil; global 0; push 0; nil; select 3; write; write; push 0; return");
        Due.is("the first case of it sends", y.strand(1, 0), 6);
        Due.is("panic", y.strand(1, 6), -4);
        Due.is("written", y.count(3), 0);
    }

    private static void selectRefuses() {
        panics("push 1; push 0; nil; select 1", -2);
        panics("tuple 1; push 0; nil; select 9", -2);
        panics("channel 1; nil; nil; select 1", -2);
        panics("channel 1; tuple 0; nil; select 9", -2);
        panics("nil; nil; nil; select 9", -2);
        panics("nil; push 0; nil; tuple 1; push 1; nil; select 10", -2);
        // All operands are looked at before a case is done.
        panics("channel 1; push 1; push 4; push 9; push 1; nil; select 2", -2);
    }
}
