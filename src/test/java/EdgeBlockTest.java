/**
 * The edges of the text block below the Terms, sentence by sentence: sending, receiving, closing, selecting,
 * deferred calls and recovery, each panic, which of two panics comes first, and what is popped and reached.
 */
public final class EdgeBlockTest {
    private static final String TWO_32 = "push 65536; double; mul; ";
    private static final String LEAST = "push -2147483648; double; mul; push -2; mul; ";
    private static final String FULL = "push 5; ".repeat(16);

    private EdgeBlockTest() {
    }

    public static void main(String[] args) {
        sendToClosed();
        sendToWhoWaitsLongest();
        sendPassesByTheRoom();
        sendIntoTheLastRoom();
        receiveFromHeld();
        receiveOfAnyKind();
        receiveFromWaiting();
        receiveFromClosed();
        nilWaitsForEver();
        operandsStayWhileWaiting();
        closePanics();
        closeOfHeld();
        closeByHowLong();
        closeEndsMain();
        selectOfEachNumberOfCases();
        selectTakesTheFirst();
        selectSendsByAnyOtherNumber();
        selectOfClosed();
        selectWithoutWaiting();
        selectTakesItsOperands();
        selectWaitsForAll();
        selectOfBothSides();
        selectKinds();
        deferredCallsComeFirst();
        panicGoesOn();
        recoverPushesAllBits();
        recoverOnlyWhereItMay();
        recoverOnce();
        panicTakesThePlace();
        strandsEnd();
        panicByZero();
        panicOfKinds();
        operandsAreLookedAtFirst();
        poppedByPanic();
        cellsOfEachObject();
        cellsOfAllThatIsReached();
        cellsOfGarbage();
        reachedByFramesThatEnd();
        notReachedByFramesThatEnded();
        newChannelsAreOpen();
        noFrameForDeferred();
        frameForDeferred();
        Due.end("EdgeBlockTest");
    }

    private static void writes(String body, long... due) {
        StrandRuntime x = Due.ran("fn 0 4; " + body + "; push 0; return");
        Due.is(body + ": state", x.state(), 2);
        Due.written(body, x, due);
    }

    private static void panics(String body, int due) {
        StrandRuntime x = Due.ran("fn 0 4; " + body + "; push 0; return; fn 0 0; push 1; return; fn 1 1; push 1; return");
        Due.is(body + ": state", x.state(), 3);
        Due.is(body + ": panic", x.strand(0, 6), due);
    }

    private static StrandRuntime waits(String body, int due) {
        StrandRuntime x = Due.ran("fn 0 4; " + body + "; push 0; return");
        Due.is(body + ": state", x.state(), 4);
        Due.is(body + ": main", x.strand(0, 0), due);
        return x;
    }

    /** "To send: if the CHANNEL is closed PANIC -4": with room, without, and full. */
    private static void sendToClosed() {
        panics("channel 0; double; close; push 1; send", -4);
        panics("channel 8; double; close; push 1; send", -4);
        panics("channel 1; setlocal 0; local 0; push 1; send; local 0; close; local 0; push 2; send", -4);
    }

    /** "if a STRAND waits to receive from it, the one that has waited longest gets it": not the least number. */
    private static void sendToWhoWaitsLongest() {
        StrandRuntime x = Due.begun("fn 0 0; channel 0; setglobal 0; push 3; spawn 1; push 2; spawn 1; push 1; spawn 1;"
            + " yield; yield; yield; yield; global 0; push 7; send; global 0; push 8; send; global 0; push 9; send; on:; yield; jump on;"
            + " fn 1 1; more:; local 0; push 1; sub; double; setlocal 0; jumpzero wait; yield; jump more;"
            + " wait:; global 0; receive; pop; on:; yield; jump on");
        x.quantum(100);
        x.run(300);
        int[] due = {0, 9, 8, 7};
        for (int s = 1; s <= 3; s++) {
            Due.is("strand " + s + " got", x.operand(s, 0), due[s]);
        }
    }

    /** Who waits gets it though there is room, so that nothing is held. */
    private static void sendPassesByTheRoom() {
        StrandRuntime x = Due.begun("fn 0 0; channel 3; setglobal 0; spawn 1; yield; global 0; push 7; send; global 0; size; jump 9;"
            + " fn 0 0; global 0; receive; jump 2");
        x.run(4 + 2 + 5);
        Due.is("got", x.operand(1, 1), 7);
        Due.is("nothing is held", x.operand(0, 0), 0);
    }

    /** "else if there is room it is held; else the STRAND waits". */
    private static void sendIntoTheLastRoom() {
        writes("channel 2; setlocal 0; local 0; push 1; send; local 0; push 2; send; local 0; size; write", 2);
        StrandRuntime x = waits("channel 2; setlocal 0; local 0; push 1; send; local 0; push 2; send; local 0; push 3; send", 2);
        Due.is("its operands", x.strand(0, 4), 2);
        waits("channel 0; push 3; send", 2);
    }

    /** "To receive: the one held longest (then, if a STRAND waits to send, what that of the longest waiting sends is held ...)". */
    private static void receiveFromHeld() {
        StrandRuntime x = Due.begun("fn 0 0; channel 1; setglobal 0; push 3; spawn 1; push 1; spawn 1; push 2; spawn 1;"
            + " yield; yield; yield; yield; global 0; receive; pop; write; global 0; size; write; global 0; receive; pop; write;"
            + " global 0; receive; pop; write; global 0; size; write; on:; yield; jump on;"
            + " fn 1 1; local 0; setlocal 0; more:; global 0; local 0; send; on:; yield; jump on");
        x.quantum(100);
        x.run(200);
        Due.written("held, then by how long they waited", x, 3, 1, 1, 2, 0);
        StrandRuntime y = Due.begun("fn 0 0; channel 1; setglobal 0; global 0; push 1; send; spawn 1; yield; global 0; receive; jump 9;"
            + " fn 0 0; push 4; global 0; tuple 2; send; jump 4");
        y.run(7 + 4);
        Due.is("strand 1 sends", y.strand(1, 0), 2);
        y.run(2);
        Due.is("it goes on", y.strand(1, 0), 1);
        Due.is("its operands are gone but one", y.strand(1, 4), 1);
        Due.is("main got what was held", y.operand(0, 1), 1);
        Due.is("and 1", y.operand(0, 0), 1);
        Due.is("what it sends is held, and reached", y.count(5), 2);
    }

    /** What is held is received as it was sent, whatever else is held; so is what a strand sends that waits. */
    private static void receiveOfAnyKind() {
        String[] values = {"push 7", "nil", "tuple 1", "channel 2"};
        for (int first = 0; first < 4; first++) {
            StringBuilder text = new StringBuilder("fn 0 1; channel 3; setlocal 0; ");
            for (int i = 0; i < 3; i++) {
                text.append("local 0; ").append(values[(first + i) % 4]).append("; send; ");
            }
            StrandRuntime x = Due.begun(text + "local 0; receive; pop; ".repeat(3) + "on:; jump on");
            x.run(2 + 9 + 9);
            Due.is("operands", x.strand(0, 4), 3);
            for (int i = 0; i < 3; i++) {
                int kind = (first + i) % 4;
                Due.is("held " + i + ": kind", x.kind(0, 2 - i), kind);
                Due.is("held " + i + ": number", x.operand(0, 2 - i), kind == 0 ? 7 : 0);
            }
            for (int room = 0; room <= 1; room++) {
                StrandRuntime y = Due.begun("fn 0 0; channel " + room + "; setglobal 0; spawn 1; yield; " + "global 0; receive; pop; ".repeat(2)
                    + "on:; jump on; fn 0 0; global 0; " + values[first] + "; send; global 0; " + values[3 - first] + "; send; jump 6");
                y.run(100);
                Due.is("room " + room + ": kind of the first", y.kind(0, 1), first);
                Due.is("room " + room + ": kind of the second", y.kind(0, 0), 3 - first);
            }
        }
    }

    /** "else what the STRAND sends that has waited longest". */
    private static void receiveFromWaiting() {
        StrandRuntime x = Due.begun("fn 0 0; channel 0; setglobal 0; push 3; spawn 1; push 2; spawn 1; push 1; spawn 1;"
            + " yield; yield; yield; yield; global 0; receive; write; write; global 0; receive; write; write;"
            + " global 0; receive; write; write; on:; yield; jump on;"
            + " fn 1 2; local 0; setlocal 1; more:; local 1; push 1; sub; double; setlocal 1; jumpzero wait; yield; jump more;"
            + " wait:; global 0; local 0; send; on:; yield; jump on");
        x.quantum(100);
        x.run(300);
        Due.written("senders by how long they waited", x, 1, 1, 1, 2, 1, 3);
    }

    /** "else, if it is closed, 0 and 0; else it waits". */
    private static void receiveFromClosed() {
        for (int room = 0; room <= 8; room += 4) {
            writes("channel " + room + "; setlocal 0; local 0; close; local 0; receive; write; write; local 0; receive; write; write",
                0, 0, 0, 0);
            waits("channel " + room + "; receive", 3);
        }
        writes("channel 8; setlocal 0; local 0; push 0; send; local 0; close; local 0; receive; write; write; local 0; receive; write; write",
            1, 0, 0, 0);
    }

    /** "To or from NIL waits for ever": though channels are closed, sent to and received from. */
    private static void nilWaitsForEver() {
        StrandRuntime x = Due.begun("fn 0 0; channel 1; setglobal 0; spawn 1; spawn 2; spawn 3; yield; global 0; push 1; send;"
            + " global 0; receive; pop; pop; global 0; close; global 0; receive; pop; pop; on:; yield; jump on;"
            + " fn 0 0; nil; push 1; send; jump 0; fn 0 0; nil; receive; jump 0;"
            + " fn 0 0; nil; push 0; nil; nil; push 1; nil; select 2; jump 0");
        x.run(500);
        for (int s = 1; s <= 3; s++) {
            Due.is("strand " + s, x.strand(s, 0), 1 + s);
        }
        Due.is("operands", x.strand(1, 4), 2);
        Due.is("operands", x.strand(2, 4), 1);
        Due.is("operands", x.strand(3, 4), 6);
        writes("nil; push 0; nil; nil; push 1; nil; select 10; write; write", -1, 0);
    }

    /** "The OPERANDS of a STRAND that waits stay till it goes on (its place is behind the INSTRUCTION then already)". */
    private static void operandsStayWhileWaiting() {
        String[] waiting = {"global 0; tuple 1; send", "global 0; receive", "global 0; push 1; tuple 1; select 1",
            "global 0; push 0; nil; select 1"};
        String[] waking = {"global 0; receive; pop; pop", "global 0; push 8; send", "global 0; receive; pop; pop",
            "global 0; push 8; send"};
        int[] operands = {3, 2, 4, 4};
        int[] place = {4, 3, 5, 5};
        int[] behind = {1, 3, 3, 3};
        for (int i = 0; i < waiting.length; i++) {
            StrandRuntime x = Due.begun("fn 0 0; channel 0; setglobal 0; spawn 1; yield; yield; " + waking[i] + "; on:; jump on;"
                + " fn 0 0; push 6; " + waiting[i] + "; on:; jump on");
            x.run(4 + place[i]);
            Due.is(waiting[i] + ": operands", x.strand(1, 4), operands[i]);
            Due.is(waiting[i] + ": place", x.strand(1, 3), place[i]);
            Due.is(waiting[i] + ": main runs", x.count(4), 0);
            x.run(1 + waking[i].split(";").length);
            Due.is(waiting[i] + ": ready", x.strand(1, 0), 1);
            Due.is(waiting[i] + ": operands then", x.strand(1, 4), behind[i]);
            Due.is(waiting[i] + ": below", x.operand(1, behind[i] - 1), 6);
            Due.is(waiting[i] + ": place then", x.strand(1, 3), place[i]);
            if (i == 1) {
                Due.is("received", x.operand(1, 1), 8);
                Due.is("and 1", x.operand(1, 0), 1);
            }
            if (i >= 2) {
                Due.is("selected: what was received", x.operand(1, 1), i == 2 ? 0 : 8);
                Due.is("selected: the case", x.operand(1, 0), 0);
            }
        }
    }

    /** "30: closed (NIL, or closed already: PANIC -4)". */
    private static void closePanics() {
        panics("nil; close", -4);
        panics("channel 0; setlocal 0; local 0; close; local 0; close", -4);
        panics("channel 8; setlocal 0; local 0; push 1; send; local 0; close; local 0; close", -4);
        panics("tuple 0; close", -2);
        panics("push 0; close", -2);
        panics("close", -3);
    }

    /** What is held when a channel is closed is still received. */
    private static void closeOfHeld() {
        String full = "channel 8; setlocal 0; " + "local 0; push 5; send; ".repeat(8) + "local 0; close; ";
        writes(full + "local 0; size; write; " + "local 0; receive; pop; pop; ".repeat(7) + "local 0; receive; write; write;"
            + " local 0; receive; write; write; local 0; size; write", 8, 1, 5, 0, 0, 0);
    }

    /** "who waits for it, by how long, gets 0 and 0, or, if it sends, has PANIC -4": in one line, whatever they wait for. */
    private static void closeByHowLong() {
        StrandRuntime x = Due.begun("fn 0 0; channel 0; setglobal 0; push 2; spawn 1; push 1; spawn 1; push 3; spawn 2;"
            + " yield; yield; yield; yield; global 0; close; push 0; jump 15;"
            + " fn 1 1; more:; local 0; push 1; sub; double; setlocal 0; jumpzero wait; yield; jump more;"
            + " wait:; global 0; receive; on:; yield; jump on;"
            + " fn 1 1; push 9; global 0; push 0; nil; select 1; on:; yield; jump on");
        x.quantum(20);
        x.run(100);
        Due.is("state", x.state(), 1);
        for (int s = 1; s <= 2; s++) {
            Due.is("strand " + s + ": operands", x.strand(s, 4), 2);
            Due.is("strand " + s + ": 0", x.operand(s, 1), 0);
            Due.is("strand " + s + ": and 0", x.operand(s, 0), 0);
        }
        Due.is("strand 3: operands", x.strand(3, 4), 3);
        StrandRuntime y = Due.begun("fn 0 0; channel 0; setglobal 0; push 2; spawn 1; push 1; spawn 1; push 3; spawn 1; yield; yield; yield; yield;"
            + " global 0; close; on:; yield; jump on;"
            + " fn 1 2; local 0; setlocal 1; more:; local 1; push 1; sub; double; setlocal 1; jumpzero wait; yield; jump more;"
            + " wait:; global 0; receive; local 0; write; push 0; return");
        y.quantum(100);
        y.run(300);
        Due.written("receivers go on by how long they waited", y, 1, 2, 3);
        StrandRuntime z = Due.begun("fn 0 0; channel 0; setglobal 0; push 1; spawn 1; push 2; spawn 1; yield; global 0; close; on:; jump on;"
            + " fn 1 1; global 0; local 0; send; jump 3");
        z.run(7 + 3 + 3 + 1);
        Due.is("two send", z.strand(1, 0) + z.strand(2, 0), 4);
        Due.is("the step that closes", z.run(1), 1);
        Due.is("strand 1 has its panic", z.strand(1, 0), 6);
        Due.is("strand 2 has its panic", z.strand(2, 6), -4);
        Due.is("there", z.count(2), 1);
    }

    private static void closeEndsMain() {
        StrandRuntime x = Due.begun("fn 0 0; channel 0; setglobal 0; spawn 1; global 0; push 1; send; push 0; return;"
            + " fn 0 0; yield; global 0; close; on:; jump on");
        x.run(6 + 2);
        Due.is("main sends", x.strand(0, 0), 2);
        Due.is("the step that closes is the last one", x.run(1000), 1);
        Due.is("main panicked", x.state(), 3);
        Due.is("panic", x.strand(0, 6), -4);
        StrandRuntime y = Due.begun("fn 0 0; push 3; defer 2; channel 0; setglobal 0; spawn 1; global 0; push 1; send; push 0; return;"
            + " fn 0 0; global 0; close; on:; jump on; fn 1 1; recover; write; push 0; return");
        y.run(1000);
        Due.is("main recovered", y.state(), 2);
        Due.is("main returned 0", y.strand(0, 6), 0);
        Due.written("recovered", y, -4);
    }

    /** "31: A is how many cases (1 to 4), and 8 more if it does not wait": three operands for each case. */
    private static void selectOfEachNumberOfCases() {
        for (int cases = 1; cases <= 4; cases++) {
            String none = "local 0; push 0; nil; ".repeat(cases - 1);
            writes("channel 0; setlocal 0; push 77; " + none + "channel 1; push 1; push 5; select " + cases + "; write; write; write",
                cases - 1, 0, 77);
            writes("channel 0; setlocal 0; push 77; " + none + "channel 1; push 1; push 5; select " + (cases + 8)
                + "; write; write; write", cases - 1, 0, 77);
            writes("channel 0; setlocal 0; push 77; " + none + "local 0; push 0; push 5; select " + (cases + 8)
                + "; write; write; write", -1, 0, 77);
            StrandRuntime x = waits("channel 0; setlocal 0; push 77; " + none + "local 0; push 0; nil; select " + cases, 4);
            Due.is("operands", x.strand(0, 4), 1 + 3 * cases);
            panics("push 0; nil; " + "channel 1; push 1; nil; ".repeat(cases - 1) + "select " + cases, -3);
            panics("push 0; nil; " + "channel 1; push 1; nil; ".repeat(cases - 1) + "select " + (cases + 8), -3);
        }
        writes("push 1; push 2; push 3; push 4; " + "nil; push 0; nil; ".repeat(3) + "channel 1; push 1; nil; select 4; write", 3);
    }

    /** "the first case that would not wait is done": alone, and none before or behind it. */
    private static void selectTakesTheFirst() {
        String three = "channel 1; setlocal 0; channel 1; setlocal 1; channel 1; setlocal 2; ";
        String cases = "local 0; push 0; nil; local 1; push 0; nil; local 2; push 0; nil; local 3; push 0; nil; select 4; write; write; ";
        for (int ready = 0; ready < 3; ready++) {
            StringBuilder body = new StringBuilder(three + "channel 1; setlocal 3; ");
            for (int i = ready; i < 4; i++) {
                body.append("local ").append(i).append("; push ").append(40 + i).append("; send; ");
            }
            writes(body + cases + "local " + ready + "; size; write; local " + (ready + 1) + "; size; write", ready, 40 + ready, 0, 1);
        }
        writes(three + "local 0; push 1; push 6; local 1; push 1; push 7; select 2; write; write; local 0; size; write; local 1; size; write",
            0, 0, 1, 0);
        writes(three + "local 0; push 9; send; local 0; push 1; push 6; local 0; push 0; nil; select 2; write; write; local 0; size; write",
            1, 9, 0);
        writes(three + "local 0; push 0; nil; local 0; push 1; push 6; select 2; write; write; local 0; size; write", 1, 0, 1);
    }

    /** "a NUMBER (0 to receive, else to send)". */
    private static void selectSendsByAnyOtherNumber() {
        for (String number : new String[] {"push 1; ", "push -1; ", "push 2147483647; ", TWO_32, LEAST}) {
            writes("channel 1; setlocal 0; local 0; " + number + "push 5; select 9; write; write; local 0; receive; write; write",
                0, 0, 1, 5);
        }
        writes("channel 1; setlocal 0; local 0; push 0; push 5; select 9; write; write; local 0; size; write", -1, 0, 0);
    }

    /** "(or panics)", "(0 if that was closed, or of sending)". */
    private static void selectOfClosed() {
        String closed = "channel 2; setlocal 0; channel 0; setlocal 1; local 0; close; ";
        writes(closed + "local 1; push 0; nil; local 0; push 0; push 5; select 2; write; write", 1, 0);
        writes(closed + "local 0; push 0; push 5; local 0; push 1; nil; select 2; write; write", 0, 0);
        panics(closed + "local 1; push 0; nil; local 0; push 1; nil; select 2", -4);
        panics(closed + "local 1; push 0; nil; local 0; push 1; nil; select 10", -4);
        panics(closed + "local 0; push 1; nil; local 0; push 0; nil; select 2", -4);
        writes("channel 2; setlocal 0; local 0; push 6; send; local 0; close; local 0; push 0; nil; select 1; write; write;"
            + " local 0; push 0; nil; select 1; write; write", 0, 6, 0, 0);
    }

    /** "If none: 0 and -1 with the 8". */
    private static void selectWithoutWaiting() {
        writes("channel 0; setlocal 0; local 0; push 0; push 7; local 0; push 1; push 8; select 10; write; write", -1, 0);
        writes("channel 1; setlocal 0; local 0; push 6; send; local 0; push 1; push 8; select 9; write; write; local 0; size; write",
            -1, 0, 1);
        StrandRuntime x = Due.begun("fn 0 0; channel 0; push 0; nil; select 9; on:; jump on");
        x.run(4);
        Due.is("it runs on", x.count(4), 0);
        Due.is("it is ready", x.strand(0, 0), 1);
    }

    /** A select that does not have to wait has popped all its operands, and pushed two. */
    private static void selectTakesItsOperands() {
        String[] held = {"push 7", "nil", "tuple 1", "channel 2"};
        for (int cases = 1; cases <= 4; cases++) {
            for (int kind = 0; kind < 4; kind++) {
                String none = "channel 0; push 0; nil; ".repeat(cases - 1);
                StrandRuntime x = Due.begun("fn 0 1; channel 1; setlocal 0; local 0; " + held[kind] + "; send; push 77; " + none
                    + "local 0; push 0; push 5; select " + cases + "; on:; jump on");
                x.run(100);
                Due.is("operands", x.strand(0, 4), 3);
                Due.is("the case", x.operand(0, 0), cases - 1);
                Due.is("what was received: kind", x.kind(0, 1), kind);
                Due.is("what was received: number", x.operand(0, 1), kind == 0 ? 7 : 0);
                Due.is("below", x.operand(0, 2), 77);
                StrandRuntime y = Due.begun("fn 0 1; channel 1; setlocal 0; push 77; " + none + "local 0; push 1; " + held[kind] + "; select "
                    + cases + "; on:; jump on");
                y.run(100);
                Due.is("sent: operands", y.strand(0, 4), 3);
                Due.is("sent: the case", y.operand(0, 0), cases - 1);
                Due.is("sent: 0", y.operand(0, 1), 0);
                Due.is("sent: below", y.operand(0, 2), 77);
            }
        }
    }

    /** One that waits to receive from a channel and to send to it too, in either order. */
    private static void selectOfBothSides() {
        String[] cases = {"global 0; push 0; push 5; global 0; push 1; push 6; ", "global 0; push 1; push 6; global 0; push 0; push 5; "};
        for (int order = 0; order <= 1; order++) {
            StrandRuntime taken = Due.begun("fn 0 0; channel 0; setglobal 0; spawn 1; yield; global 0; receive; jump 6; fn 0 0; "
                + cases[order] + "select 2; on:; yield; jump on");
            taken.run(50);
            Due.is("main received", taken.operand(0, 1), 6);
            Due.is("the case that sends", taken.operand(1, 0), 1 - order);
            Due.is("0 of sending", taken.operand(1, 1), 0);
            StrandRuntime given = Due.begun("fn 0 0; channel 0; setglobal 0; spawn 1; yield; global 0; push 9; send; jump 7; fn 0 0; "
                + cases[order] + "select 2; on:; yield; jump on");
            given.run(50);
            Due.is("the case that receives", given.operand(1, 0), order);
            Due.is("what it received", given.operand(1, 1), 9);
            // A select finds no partner in itself; two such find one another, the one that waits by its other side.
            StrandRuntime two = Due.begun("fn 0 0; channel 0; setglobal 0; spawn 1; spawn 1; on:; yield; jump on; fn 0 0; "
                + cases[order] + "select 2; on:; yield; jump on");
            two.run(50);
            Due.is("who waited", two.operand(1, 0), 1);
            Due.is("who came", two.operand(2, 0), 0);
            Due.is("who waited got", two.operand(1, 1), order == 0 ? 0 : 6);
            Due.is("who came got", two.operand(2, 1), order == 0 ? 6 : 0);
        }
    }

    /** "else it waits for all": each of four cases can end it, sent to or received from. */
    private static void selectWaitsForAll() {
        for (int which = 0; which < 4; which++) {
            for (int sends = 0; sends <= 1; sends++) {
                StringBuilder text = new StringBuilder("fn 0 0; ");
                for (int g = 0; g < 4; g++) {
                    text.append("channel 0; setglobal ").append(g).append("; ");
                }
                text.append("spawn 1; yield; global ").append(which);
                text.append(sends == 1 ? "; receive; pop; write; " : "; push 20; send; ");
                text.append("yield; push 0; return; fn 0 0; ");
                for (int g = 0; g < 4; g++) {
                    text.append("global ").append(g).append("; push ").append(sends).append("; push ").append(30 + g).append("; ");
                }
                StrandRuntime x = Due.begun(text + "select 4; on:; yield; jump on");
                x.quantum(100);
                x.run(1000);
                Due.is("state", x.state(), 2);
                Due.is("strand 1: operands", x.strand(1, 4), 2);
                Due.is("strand 1: case", x.operand(1, 0), which);
                Due.is("strand 1: received", x.operand(1, 1), sends == 1 ? 0 : 20);
                Due.is("main received", x.take(), sends == 1 ? 30 + which : 0);
            }
        }
    }

    /** -2 of 31: each channel and each number must be such; the value may be anything. */
    private static void selectKinds() {
        for (String wrong : new String[] {"push 0", "push 1", "tuple 1"}) {
            for (int at = 0; at < 4; at++) {
                String cases = "nil; push 0; nil; ".repeat(at) + wrong + "; push 0; nil; " + "nil; push 0; nil; ".repeat(3 - at);
                panics(cases + "select 4", -2);
                panics(cases + "select 12", -2);
            }
        }
        for (String wrong : new String[] {"nil", "tuple 1", "channel 1"}) {
            for (int at = 0; at < 4; at++) {
                String cases = "nil; push 0; nil; ".repeat(at) + "nil; " + wrong + "; nil; " + "nil; push 0; nil; ".repeat(3 - at);
                panics(cases + "select 4", -2);
                panics(cases + "select 12", -2);
            }
        }
        for (String value : new String[] {"push 3", "nil", "tuple 1", "channel 1"}) {
            writes("channel 1; push 1; " + value + "; select 1; write", 0);
        }
    }

    /** "first has its DEFERRED calls, the last one first (what they return is dropped)". */
    private static void deferredCallsComeFirst() {
        StrandRuntime x = Due.begun("fn 0 0; push 9; call 1; jump 2; fn 0 0; push 5; push 1; defer 2; push 2; defer 2; tuple 4; return;"
            + " fn 1 1; local 0; write; push 70; return");
        x.run(9);
        Due.is("frames", x.strand(0, 1), 3);
        Due.is("a deferred call of function 2", x.strand(0, 2), 2);
        Due.is("at its first place", x.strand(0, 3), 0);
        Due.is("without operands", x.strand(0, 4), 0);
        x.run(4);
        Due.is("the next one", x.strand(0, 1), 3);
        x.run(4);
        Due.is("back in main", x.strand(0, 1), 1);
        Due.is("operands: the value alone was pushed", x.strand(0, 4), 2);
        Due.is("the value", x.kind(0, 0), 2);
        Due.written("the last one first", x, 2, 1);
        // One that a deferred call defers comes before the frame's other ones.
        StrandRuntime y = Due.ran("fn 0 0; push 1; defer 2; push 2; defer 1; push 0; return;"
            + " fn 1 1; push 3; defer 2; push 4; write; push 0; return; fn 1 1; local 0; write; push 0; return");
        Due.written("deferred by a deferred call", y, 4, 3, 1);
    }

    /** "a PANIC goes on there": in each frame behind its deferred calls, till the strand ends. */
    private static void panicGoesOn() {
        StrandRuntime x = Due.begun("fn 0 0; push 1; defer 3; call 1; on:; jump on; fn 0 0; call 2; return;"
            + " fn 0 0; push 2; defer 3; push 8; panic; fn 1 1; local 0; write; push 0; return");
        x.run(3 + 1 + 4);
        Due.is("a deferred call of frame 3", x.strand(0, 1), 4);
        x.run(4);
        Due.is("frames 3 and 2 are left: a deferred call of main", x.strand(0, 1), 2);
        x.run(3);
        Due.is("state", x.state(), 1);
        Due.is("the last step", x.run(9), 1);
        Due.is("state", x.state(), 3);
        Due.is("panic", x.strand(0, 6), 8);
        Due.written("deferred", x, 2, 1);
        panics(LEAST + "panic", 0);
        panics(TWO_32 + "push 7; sub; panic", -7);
    }

    /** "pushes its NUMBER, and the PANIC is over: that FRAME returns 0 (behind its other DEFERRED calls)". */
    private static void recoverPushesAllBits() {
        String recovers = "; panic; fn 1 1; recover; write; push 0; return";
        String[] numbers = {"push 0", "push -3", TWO_32 + "push 5; add", LEAST + "push 0; add"};
        long[] due = {0, -3, 4294967301L, Long.MIN_VALUE};
        for (int i = 0; i < numbers.length; i++) {
            StrandRuntime x = Due.ran("fn 0 0; push 1; defer 1; " + numbers[i] + recovers);
            Due.is(numbers[i] + ": main returned", x.state(), 2);
            Due.is(numbers[i] + ": 0", x.strand(0, 6), 0);
            Due.written(numbers[i], x, due[i]);
        }
        StrandRuntime y = Due.begun("fn 0 0; push 4; call 1; jump 2; fn 0 0; push 1; defer 3; push 2; defer 2; push 6; push 5; panic;"
            + " fn 1 1; recover; pop; push 60; return; fn 1 1; local 0; write; push 61; return");
        y.run(100);
        Due.is("frames", y.strand(0, 1), 1);
        Due.is("operands", y.strand(0, 4), 2);
        Due.is("returned 0", y.operand(0, 0), 0);
        Due.is("a number", y.kind(0, 0), 0);
        Due.written("the other deferred call", y, 1);
    }

    /** "36 in a FRAME that is a DEFERRED call of one in which there is a PANIC ...; else pushes NIL". */
    private static void recoverOnlyWhereItMay() {
        String nil = "recover; iszero; write; push 0; return";
        String tells = "fn 1 1; recover; double; jumpzero no; write; push 0; return; no:; pop; push -99; write; push 0; return";
        writes("recover; iszero; write", 1);
        StrandRuntime called = Due.ran("fn 0 0; call 1; return; fn 0 0; " + nil);
        Due.written("a called frame", called, 1);
        StrandRuntime strand = Due.ran("fn 0 0; spawn 1; yield; push 0; return; fn 0 0; " + nil);
        Due.written("a strand's first frame", strand, 1);
        StrandRuntime returns = Due.ran("fn 0 0; push 1; defer 1; push 7; return; " + tells);
        Due.written("a deferred call of one that returns", returns, -99);
        Due.is("which returns what it did", returns.strand(0, 6), 7);
        StrandRuntime deeper = Due.ran("fn 0 0; push 1; defer 1; push 7; panic; fn 1 1; local 0; call 2; return; " + tells);
        Due.written("what a deferred call calls", deeper, -99);
        Due.is("the panic goes on", deeper.strand(0, 6), 7);
        StrandRuntime nested = Due.ran("fn 0 0; push 1; defer 1; push 7; panic; fn 1 1; push 2; defer 2; push 0; return; " + tells);
        Due.written("a deferred call of a deferred call that returns", nested, -99);
        Due.is("the panic goes on", nested.strand(0, 6), 7);
        StrandRuntime own = Due.ran("fn 0 0; push 1; defer 1; push 7; panic; fn 1 1; push 2; defer 2; push 8; panic; " + tells);
        Due.written("a deferred call of a deferred call that panics", own, 8);
        Due.is("the first panic goes on", own.strand(0, 6), 7);
        StrandRuntime through = Due.ran("fn 0 0; push 1; defer 2; call 1; return; fn 0 0; push 7; panic; " + tells);
        Due.written("a panic that came out of a called frame", through, 7);
        Due.is("main returned", through.state(), 2);
    }

    /** A panic that is over is not recovered twice, by the same call or by the next. */
    private static void recoverOnce() {
        StrandRuntime x = Due.ran("fn 0 0; push 1; defer 2; push 1; defer 1; push 7; panic;"
            + " fn 1 1; recover; write; recover; iszero; write; push 0; return; fn 1 1; recover; iszero; write; push 0; return");
        Due.written("recovered", x, 7, 1, 1);
        Due.is("state", x.state(), 2);
    }

    /** "A PANIC that goes on out of a DEFERRED call takes the place of one before." */
    private static void panicTakesThePlace() {
        StrandRuntime x = Due.ran("fn 0 0; push 1; defer 1; push 2; defer 1; push 7; panic; fn 1 1; local 0; push 20; add; panic");
        Due.is("the last panic", x.strand(0, 6), 21);
        Due.is("state", x.state(), 3);
        StrandRuntime y = Due.ran("fn 0 0; push 1; defer 1; push 7; return; fn 1 1; push 20; panic");
        Due.is("a panic in place of a return", y.strand(0, 6), 20);
        Due.is("state", y.state(), 3);
        StrandRuntime z = Due.ran("fn 0 0; push 1; defer 1; push 7; panic; fn 1 1; recover; pop; push 20; panic");
        Due.is("a panic behind a recovery", z.strand(0, 6), 20);
        Due.is("state", z.state(), 3);
    }

    /** "A STRAND whose first FRAME has returned, or panicked, ended": behind its deferred calls. */
    private static void strandsEnd() {
        for (String end : new String[] {"return", "panic"}) {
            StrandRuntime x = Due.begun("fn 0 0; spawn 1; on:; yield; jump on; fn 0 0; push 1; defer 2; push 30; " + end
                + "; fn 1 1; yield; push 0; return");
            x.quantum(100);
            x.run(2 + 4);
            Due.is(end + ": a deferred call goes on", x.strand(1, 0), 1);
            Due.is(end + ": frames", x.strand(1, 1), 2);
            x.run(5);
            Due.is(end + ": ended", x.strand(1, 0), end.equals("return") ? 5 : 6);
            Due.is(end + ": with", x.strand(1, 6), 30);
            Due.is(end + ": frames", x.strand(1, 1), 0);
            Due.is(end + ": the run goes on", x.state(), 1);
        }
    }

    /** "-1 / by 0". */
    private static void panicByZero() {
        panics("push 0; push 0; div", -1);
        panics("push -2147483648; push 0; div", -1);
        panics("nil; push 0; div", -2);
        panics("push 0; div", -3);
        writes("push 0; push 1; div; write", 0);
    }

    /** "-2 a NUMBER, REFERENCE, kind of OBJECT, or VALUE of a TUPLE that is not as wanted". */
    private static void panicOfKinds() {
        for (String op : new String[] {"add", "sub", "mul", "div", "less"}) {
            for (String wrong : new String[] {"nil", "tuple 0", "channel 0"}) {
                panics(wrong + "; push 1; " + op, -2);
                panics("push 1; " + wrong + "; " + op, -2);
                panics(wrong + "; " + wrong + "; " + op, -2);
            }
        }
        for (String wrong : new String[] {"push 2", "nil", "channel 1"}) {
            panics(wrong + "; get 0", -2);
            panics(wrong + "; push 1; set 0", -2);
            panics(wrong + "; push 0; getat", -2);
            panics(wrong + "; push 0; push 1; setat", -2);
        }
        for (String wrong : new String[] {"nil", "tuple 1", "channel 1"}) {
            panics("tuple 1; " + wrong + "; getat", -2);
            panics("tuple 1; " + wrong + "; push 1; setat", -2);
            panics(wrong + "; write", -2);
            panics(wrong + "; panic", -2);
        }
        for (String wrong : new String[] {"push 2", "tuple 1"}) {
            panics(wrong + "; push 1; send", -2);
            panics(wrong + "; receive", -2);
            panics(wrong + "; close", -2);
        }
        panics("push 2; size", -2);
        panics("nil; size", -2);
    }

    /** "-3 of OPERANDS is looked at first, with what it pushes, a call with what that returns." */
    private static void operandsAreLookedAtFirst() {
        panics(FULL + "call 1", -3);
        panics(FULL + "receive", -3);
        panics("push 5; ".repeat(15) + "tuple 1; receive", -3);
        panics("push 5; ".repeat(15) + "channel 1; double; close; pop; receive", -3);
        panics("tuple 1; add", -3);
        panics("tuple 1; send", -3);
        panics("push 1; set 0", -3);
        panics("push 1; getat", -3);
        panics("push 1; push 2; setat", -3);
        panics("tuple 1; nil; select 1", -3);
        // 36 with sixteen operands panics itself: it does not recover.
        StrandRuntime x = Due.ran("fn 0 0; push 1; defer 1; push 7; panic; fn 1 1; " + FULL + "recover; write; push 0; return");
        Due.is("state", x.state(), 3);
        Due.is("its own panic", x.strand(0, 6), -3);
        // There is neither an operand for a new object nor are there cells for it.
        StrandRuntime y = Due.ran("fn 0 1; " + filled(1200) + FULL + "tuple 0; return");
        Due.is("-3 before -5", y.strand(0, 6), -3);
        Due.is("made", y.count(7), 67);
        // What takes as many as it pushes can do so with sixteen.
        for (String op : new String[] {"swap", "add", "same", "iszero", "call 2", "write", "pop", "spawn 1", "yield"}) {
            StrandRuntime z = Due.begun("fn 0 0; " + FULL + op + "; on:; jump on; fn 0 0; jump 0; fn 1 1; local 0; return");
            z.quantum(100);
            z.run(20);
            Due.is("sixteen and " + op, z.state(), 1);
        }
    }

    /** "An INSTRUCTION that panics has popped what it takes, as far as that is there": what is below stays. */
    private static void poppedByPanic() {
        String[] bodies = {
            "tuple 1; tuple 1; tuple 1; add", "tuple 1; tuple 1; push 0; div", "tuple 1; tuple 1; get 1", "tuple 1; tuple 1; tuple 1; set 1",
            "tuple 1; tuple 1; tuple 1; getat", "tuple 1; tuple 1; tuple 1; tuple 1; setat", "tuple 1; tuple 1; send; send",
            "tuple 1; tuple 1; receive", "tuple 1; tuple 1; close", "tuple 1; tuple 1; write", "tuple 1; tuple 1; panic",
            "tuple 1; tuple 1; tuple 1; tuple 1; select 1", "tuple 1; channel 0; tuple 1; tuple 1; select 9",
            "tuple 1; channel 0; double; close; close", "tuple 1; channel 2; double; close; tuple 1; send",
            "tuple 1; channel 2; double; close; push 1; tuple 1; select 1"};
        for (String body : bodies) {
            StrandRuntime x = behindPanic(body);
            Due.is(body + ": what is below stays", x.count(5), body.endsWith("send; send") ? 0 : 1);
        }
        String[] few = {"tuple 1; add", "tuple 1; swap", "tuple 1; less", "tuple 1; same", "tuple 1; set 0", "tuple 1; getat",
            "tuple 1; tuple 1; setat", "tuple 1; send", "tuple 1; tuple 1; select 1", "tuple 1; tuple 1; tuple 1; call 2",
            "tuple 1; tuple 1; tuple 1; spawn 2"};
        for (String body : few) {
            StrandRuntime x = behindPanic(body);
            Due.is(body + ": all that is there is popped", x.count(5), 0);
        }
        String[] nothingTaken = {"tuple 0; push 5", "tuple 0; nil", "tuple 0; local 0", "tuple 0; global 0", "tuple 0; recover"};
        for (String body : nothingTaken) {
            StrandRuntime x = behindPanic("push 5; ".repeat(15) + body);
            Due.is(body + ": nothing is taken", x.count(5), 1);
        }
        // A seventh deferred call has popped its value.
        StrandRuntime x = behindPanic("push 1; defer 1; ".repeat(5) + "tuple 1; tuple 1; defer 1");
        Due.is("a seventh deferred call", x.count(5), 1);
        // As has a call for which there is no frame: 30 frames, each with a tuple as local, and one as operand.
        StrandRuntime y = Due.begun("fn 0 1; push 1; defer 2; tuple 0; call 1; return; fn 1 1; tuple 0; call 1; return; fn 1 1; jump 0");
        y.run(5 + 2 * 28 + 1 + 1);
        Due.is("a call without a frame: the deferred call of main", y.strand(0, 2), 2);
        Due.is("nothing is reached", y.count(5), 0);
    }

    /** Behind the panic of this body, in a deferred call that goes on for ever. */
    private static StrandRuntime behindPanic(String body) {
        StrandRuntime x = Due.begun("fn 0 1; push 1; defer 1; " + body + "; push 0; return; fn 1 1; jump 0; fn 4 4; jump 0");
        x.quantum(100);
        for (int i = 0; i < 90 && x.strand(0, 2) == 0 && x.state() == 1; i++) {
            x.run(1);
        }
        Due.is(body + ": state", x.state(), 1);
        Due.is(body + ": function", x.strand(0, 2), 1);
        return x;
    }

    /** Makes tuples in a chain from global 0 with so many cells in all; uses local 0. */
    private static String filled(int cells) {
        int whole = cells / 18;
        int rest = cells % 18;
        if (rest == 1 || rest == 2) {
            whole--;
            rest += 18;
        }
        String more = rest == 0 ? "" : rest <= 18 ? link(rest) : link(9) + link(rest - 9);
        return "push " + whole + "; setlocal 0; fill:; local 0; jumpzero full; " + link(18)
            + "local 0; push 1; sub; setlocal 0; jump fill; full:; " + more;
    }

    private static String link(int cells) {
        return "tuple " + (cells - 2) + "; double; global 0; set 0; setglobal 0; ";
    }

    /** "-5 ... more than 1200: of a TUPLE 2 and its VALUES, of a CHANNEL 3 and its room". */
    private static void cellsOfEachObject() {
        for (int kind = 0; kind < 26; kind++) {
            int size = kind < 17 ? kind : kind - 17;
            int cells = kind < 17 ? 2 + size : 3 + size;
            String make = (kind < 17 ? "tuple " : "channel ") + size;
            for (int pace : new int[] {0, 5, 50}) {
                StrandRuntime fits = made(filled(1200 - cells) + make, pace);
                Due.is(make + " with which there are 1200: state", fits.state(), 1);
                Due.is(make + ": cells", fits.count(6), 1200);
                Due.is(make + ": check", fits.check(), 0);
                int objects = fits.count(7);
                StrandRuntime not = made(filled(1201 - cells) + make, pace);
                Due.is(make + " with which there were 1201: state", not.state(), 3);
                Due.is(make + " with which there were 1201: panic", not.strand(0, 6), -5);
                Due.is(make + ": cells stay", not.count(6), 1201 - cells);
                Due.is(make + ": one object was not made", not.count(7) <= objects + 1 ? not.count(5) : -1, not.count(7));
                Due.is(make + ": check", not.check(), 0);
            }
        }
    }

    private static StrandRuntime made(String body, int pace) {
        StrandRuntime x = Due.begun("fn 0 1; " + body + "; on:; jump on");
        x.pace(pace);
        x.run(1000);
        if (x.state() == 1) {
            x.run(1000);
        }
        return x;
    }

    /** "Reached are those of GLOBALS, LOCALS, OPERANDS (of who waits, too), DEFERRED calls, returned VALUES that wait ...". */
    private static void cellsOfAllThatIsReached() {
        String let = "push 0; setglobal 0; ";
        String one = "tuple 0; ";
        String[] keeps = {
            "", "global 0; setlocal 0; " + let, "global 0; " + let, "global 0; defer 3; " + let, "global 0; call 2; ",
            "global 0; spawn 1; " + let, "global 0; setglobal 15; " + let};
        for (String keep : keeps) {
            StrandRuntime x = Due.ran("fn 0 1; " + filled(1200) + keep + one + "return; fn 1 1; on:; yield; jump on;"
                + " fn 1 1; push 0; setglobal 0; tuple 0; return; fn 1 1; push 0; return");
            Due.is("reached by " + keep + ": panic", x.strand(0, 6), -5);
        }
        StrandRuntime lost = Due.ran("fn 0 1; " + filled(1200) + let + one + "write; return");
        Due.is("not reached any more", lost.strand(0, 6), -2);
        // A returned value that waits for a deferred call, in which there are no cells.
        StrandRuntime returned = Due.ran("fn 0 1; push 1; defer 1; " + filled(1200) + "global 0; " + let + "return; fn 1 1; tuple 0; return");
        Due.is("a returned value that waits", returned.strand(0, 6), -5);
        // Who waits: to send a value to NIL, to select, and to receive from a channel that is held by nothing else.
        String[] waiting = {"nil; local 0; send", "nil; push 1; local 0; select 1", "local 0; pop; nil; receive"};
        for (String wait : waiting) {
            StrandRuntime x = Due.ran("fn 0 1; " + filled(1200) + "global 0; spawn 1; " + let + "yield; tuple 0; return; fn 1 1; " + wait
                + "; jump 0");
            Due.is("by one that waits, " + wait, x.strand(0, 6), -5);
        }
        StrandRuntime operand = Due.ran("fn 0 1; " + filled(1200) + "global 0; spawn 1; " + let + "yield; tuple 0; return;"
            + " fn 1 1; nil; local 0; push 0; setlocal 0; send; jump 0");
        Due.is("by an operand of one that waits", operand.strand(0, 6), -5);
        // Held by a channel of 11 cells, and in a tuple of 18.
        StrandRuntime held = Due.ran("fn 0 2; channel 8; setlocal 1; " + filled(1189) + "local 1; global 0; send; " + let + "tuple 0; return");
        Due.is("held by a channel", held.strand(0, 6), -5);
        StrandRuntime inside = Due.ran("fn 0 2; tuple 16; setlocal 1; " + filled(1182) + "local 1; global 0; set 15; " + let
            + "tuple 0; return");
        Due.is("in a tuple", inside.strand(0, 6), -5);
        StrandRuntime apart = Due.ran("fn 0 2; tuple 16; setlocal 1; " + filled(1182) + "local 1; global 0; set 15; " + let
            + "local 1; nil; set 15; tuple 0; return");
        Due.is("no more in the tuple", apart.state(), 2);
    }

    /** Cells of what can not be reached do not count, whatever was swept. */
    private static void cellsOfGarbage() {
        for (int pace : new int[] {0, 1, 5, 50}) {
            StrandRuntime x = Due.begun("fn 0 1; " + filled(1182) + "on:; tuple 16; pop; channel 8; pop; tuple 0; pop; jump on");
            x.pace(pace);
            for (int i = 0; i < 8; i++) {
                x.run(1000);
                Due.is("check", x.check(), 0);
            }
            Due.is("pace " + pace + ": goes on", x.state(), 1);
            Due.is("pace " + pace + ": made many", x.count(7) > 1000 ? 1 : 0, 1);
        }
    }

    /** A frame that has its deferred calls still has its LOCALS and OPERANDS, but for what it popped. */
    private static void reachedByFramesThatEnd() {
        String[] bodies = {"tuple 1; push 0; return", "tuple 1; push 7; panic", "tuple 1; push 1; push 0; div; return",
            "tuple 1; setlocal 0; push 0; return", "tuple 1; setlocal 0; push 7; panic", "tuple 1; return"};
        for (String body : bodies) {
            StrandRuntime x = Due.begun("fn 0 1; push 1; defer 1; " + body + "; fn 1 1; jump 0");
            x.run(20);
            Due.is(body + ": a deferred call goes on", x.strand(0, 1), 2);
            Due.is(body + ": reached", x.count(5), 1);
        }
    }

    /** Where a frame stood that returned an object, or had it in it, another frame stands now. */
    private static void notReachedByFramesThatEnded() {
        StrandRuntime x = Due.begun("fn 0 0; call 1; pop; call 2; return; fn 0 2; tuple 1; setlocal 1; tuple 2; tuple 3; defer 3; tuple 4; return;"
            + " fn 0 2; on:; yield; jump on; fn 1 1; push 0; return");
        x.run(30);
        Due.is("in function 2", x.strand(0, 2), 2);
        Due.is("made", x.count(7), 4);
        Due.is("nothing is reached", x.count(5), 0);
        Due.is("nothing is there", x.collect(), 0);
    }

    /** A new channel is open and empty, also where a closed one was collected. */
    private static void newChannelsAreOpen() {
        StrandRuntime x = Due.begun("fn 0 1; again:; channel 1; setlocal 0; local 0; size; write; local 0; push 6; send; local 0; size; write;"
            + " local 0; close; push 0; setlocal 0; yield; jump again");
        for (int round = 0; round < 5; round++) {
            int steps = round == 0 ? 15 : 17;
            Due.is("run", x.run(steps), steps);
            Due.is("the closed one is collected", x.collect(), 0);
            Due.is("made", x.count(7), round + 1);
            Due.is("empty at first", x.take(), 0);
            Due.is("then it holds one", x.take(), 1);
        }
    }

    private static String deep(int frames, String last) {
        return "fn 0 0; push " + (frames - 2) + "; call 1; write; push 0; return;"
            + " fn 1 1; local 0; jumpzero last; local 0; push 1; sub; call 1; return; last:; " + last + " return;"
            + " fn 1 1; local 0; write; push 0; return";
    }

    /** "A DEFERRED call for which there is no FRAME is dropped: PANIC -3 in the FRAME that ends." */
    private static void noFrameForDeferred() {
        StrandRuntime x = Due.ran(deep(30, "push 4; defer 2; push 5; defer 2; push 9;"));
        Due.is("state", x.state(), 3);
        Due.is("panic", x.strand(0, 6), -3);
        Due.is("none was called", x.count(3), 0);
        StrandRuntime y = Due.ran(deep(30, "push 4; defer 2; push 44; panic; push 9;"));
        Due.is("it takes the place of another panic", y.strand(0, 6), -3);
        // A deferred call in frame 30 that defers: its own call is dropped, and the frame below recovers.
        StrandRuntime z = Due.ran("fn 0 0; push 27; call 1; write; push 0; return;"
            + " fn 1 1; local 0; jumpzero last; local 0; push 1; sub; call 1; return;"
            + " last:; push 1; defer 3; push 2; defer 2; push 9; return;"
            + " fn 1 1; push 3; defer 2; push 0; return; fn 1 1; recover; write; push 0; return");
        Due.is("state", z.state(), 2);
        Due.written("recovered -3, and returned 0", z, -3, 0);
    }

    private static void frameForDeferred() {
        StrandRuntime x = Due.ran(deep(29, "push 4; defer 2; push 5; defer 2; push 9;"));
        Due.is("state", x.state(), 2);
        Due.written("in the thirtieth frame", x, 5, 4, 9);
    }
}
