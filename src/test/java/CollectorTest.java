import java.lang.reflect.Field;

/**
 * Promises 7 and 17 from inside: that the pace is how much is marked or swept beside each step, and that
 * check tells what is wrong. Answers alone can not show either, so this test looks at private fields.
 */
public final class CollectorTest {
    private static final int SWEEPS = 2;

    private CollectorTest() {
    }

    public static void main(String[] args) throws ReflectiveOperationException {
        garbageIsSweptBesideSteps();
        nothingIsSweptWithPace0();
        paceIsHowMuch();
        collectLeavesNothing();
        checkTellsPlaces();
        checkTellsSwept();
        checkTellsMarks();
        checkTellsLostMarks();
        roundsEndWithTheRun();
        Due.end("CollectorTest");
    }

    private static Field field(Object of, String name) throws ReflectiveOperationException {
        Field field = of.getClass().getDeclaredField(name);
        field.setAccessible(true);
        return field;
    }

    private static Object part(Object of, String name) throws ReflectiveOperationException {
        return field(of, name).get(of);
    }

    private static int number(Object of, String name) throws ReflectiveOperationException {
        return field(of, name).getInt(of);
    }

    private static void set(Object of, String name, int value) throws ReflectiveOperationException {
        field(of, name).setInt(of, value);
    }

    private static int mostObjects(int pace) throws ReflectiveOperationException {
        StrandRuntime x = Due.begun("fn 0 0; tuple 16; setglobal 0; tuple 16; pop; jump 0");
        x.pace(pace);
        Object heap = part(x, "heap");
        int most = 0;
        for (int i = 0; i < 400; i++) {
            x.run(7);
            most = Math.max(most, number(heap, "objects"));
        }
        return most;
    }

    /** Sixty-six tuples of 16 values would fill the heap: it is swept long before. */
    private static void garbageIsSweptBesideSteps() throws ReflectiveOperationException {
        Due.is("with pace 50 fewer than 40 objects are ever there", mostObjects(50) < 40 ? 1 : 0, 1);
    }

    private static void nothingIsSweptWithPace0() throws ReflectiveOperationException {
        Due.is("with pace 0 the heap fills", mostObjects(0), 66);
    }

    private static void paceIsHowMuch() throws ReflectiveOperationException {
        for (int pace = 1; pace <= 50; pace++) {
            StrandRuntime x = Due.begun("fn 0 0; tuple 16; pop; jump 0");
            x.pace(pace);
            Object heap = part(x, "heap");
            int seen = 0;
            for (int i = 0; i < 2000 && seen < 5; i++) {
                int before = number(heap, "sweepAt");
                boolean sweeps = number(heap, "round") == SWEEPS;
                x.run(1);
                if (sweeps && number(heap, "round") == SWEEPS && number(heap, "sweepAt") > before) {
                    Due.is("swept beside one step", number(heap, "sweepAt") - before, pace);
                    seen++;
                }
            }
            Due.is("sweeping was seen with pace " + pace, seen, 5);
        }
    }

    private static void collectLeavesNothing() throws ReflectiveOperationException {
        StrandRuntime x = Due.begun("fn 0 0; tuple 3; pop; tuple 0; setglobal 1; jump 0");
        x.pace(0);
        x.run(100);
        Object heap = part(x, "heap");
        Due.is("garbage is there", number(heap, "objects") > 30 ? 1 : 0, 1);
        Due.is("collect", x.collect(), 1);
        Due.is("objects", number(heap, "objects"), 1);
        Due.is("cells", number(heap, "cells"), 2);
        Due.is("free places", number(heap, "freeSize"), 599);
    }

    /** Three tuples in globals, nothing else, and no round. */
    private static StrandRuntime three() {
        StrandRuntime x = Due.begun("fn 0 0; tuple 1; setglobal 0; tuple 1; setglobal 1; tuple 1; setglobal 2; on:; jump on");
        x.run(7);
        Due.is("check before", x.check(), 0);
        return x;
    }

    /** "places that are in two, or in none". */
    private static void checkTellsPlaces() throws ReflectiveOperationException {
        StrandRuntime lost = three();
        Object heap = part(lost, "heap");
        set(heap, "freeSize", 596);
        Due.is("a free place that is in none", lost.check(), 1);
        StrandRuntime twice = three();
        heap = part(twice, "heap");
        int[] free = (int[]) part(heap, "free");
        free[0] = free[1];
        Due.is("a free place that is in two, and one in none", twice.check(), 2);
        StrandRuntime used = three();
        heap = part(used, "heap");
        set(heap, "freeSize", 598);
        Due.is("a used place that is free too", used.check(), 1);
        StrandRuntime cells = three();
        heap = part(cells, "heap");
        set(heap, "cells", 10);
        Due.is("cells that are none", cells.check(), 1);
    }

    /** "OBJECTS that can be reached and were swept". */
    private static void checkTellsSwept() throws ReflectiveOperationException {
        StrandRuntime x = three();
        Object heap = part(x, "heap");
        Object thing = ((Object[]) part(heap, "things"))[1];
        set(thing, "type", 0);
        // It is in no place, its cells are amiss, and it can be reached.
        Due.is("one that can be reached was swept", x.check(), 3);
    }

    /** "marks that are not as they must be": there are none while no round goes on. */
    private static void checkTellsMarks() throws ReflectiveOperationException {
        StrandRuntime x = three();
        Object beside = part(part(x, "heap"), "beside");
        int[] colours = (int[]) part(beside, "colours");
        colours[0] = 2;
        Due.is("a mark while no round goes on", x.check(), 1);
        colours[300] = 2;
        Due.is("a mark of a free place", x.check(), 2);
        StrandRuntime y = marking();
        beside = part(part(y, "heap"), "beside");
        colours = (int[]) part(beside, "colours");
        colours[300] = 2;
        Due.is("a mark of a free place while a round goes on", y.check(), 1);
        colours[300] = 0;
        int black = 0;
        while (colours[black] != 2) {
            black++;
        }
        colours[black] = 1;
        Due.is("one that is met and will not be looked into", y.check(), 1);
    }

    /** Forty tuples in globals and a chain, and a round that has begun to mark them. */
    private static StrandRuntime marking() throws ReflectiveOperationException {
        StrandRuntime x = Due.begun("fn 0 1; tuple 2; double; global 0; set 0; setglobal 0; local 0; push 1; add; double; setlocal 0;"
            + " push 40; less; jumpzero on; jump 0; on:; tuple 1; setglobal 1; tuple 1; setglobal 2; more:; yield; jump more");
        x.pace(0);
        x.run(620);
        x.pace(1);
        x.run(3);
        Due.is("a round marks", number(part(x, "heap"), "round"), 1);
        Due.is("check before", x.check(), 0);
        return x;
    }

    private static void checkTellsLostMarks() throws ReflectiveOperationException {
        StrandRuntime x = marking();
        Object beside = part(part(x, "heap"), "beside");
        int[] colours = (int[]) part(beside, "colours");
        int[] greys = (int[]) part(beside, "greys");
        int last = greys[number(beside, "greySize") - 1];
        colours[last] = 0;
        set(beside, "greySize", number(beside, "greySize") - 1);
        Due.is("what is reached will be missed", x.check() > 0 ? 1 : 0, 1);
    }

    /** A round that goes on when a run is over by begin or clear leaves no marks behind. */
    private static void roundsEndWithTheRun() throws ReflectiveOperationException {
        StrandRuntime x = marking();
        x.begin(0);
        Due.is("begin: check", x.check(), 0);
        Due.is("begin: no round goes on", number(part(x, "heap"), "round"), 0);
        x.run(620);
        Due.is("check", x.check(), 0);
        StrandRuntime y = marking();
        y.clear();
        Due.is("clear: check", y.check(), 0);
        StrandRuntime z = marking();
        Due.is("collect", z.collect(), z.count(5));
        Due.is("collect: check", z.check(), 0);
        Due.is("collect: no round goes on", number(part(z, "heap"), "round"), 0);
    }
}
