import java.util.ArrayDeque;
import java.util.ArrayList;
import java.util.IdentityHashMap;
import java.util.List;
import java.util.Map;

/**
 * The document once more, as plainly as Java's library allows and without a collector: FuzzTest compares
 * StrandRuntime with it. A value is a Long, NIL, a Tuple or a Chan.
 */
final class Model {
    static final Object NIL = new Object();

    static final class Tuple {
        final Object[] values;

        Tuple(int n) {
            values = new Object[n];
            java.util.Arrays.fill(values, 0L);
        }
    }

    static final class Chan {
        final int room;
        final ArrayDeque<Object> held = new ArrayDeque<>();
        boolean closed;

        Chan(int room) {
            this.room = room;
        }
    }

    static final class Fn {
        final int params;
        final int locals;
        final List<int[]> code = new ArrayList<>();

        Fn(int params, int locals) {
            this.params = params;
            this.locals = locals;
        }
    }

    static final class Deferred {
        final int f;
        final Object value;

        Deferred(int f, Object value) {
            this.f = f;
            this.value = value;
        }
    }

    static final class Frame {
        final int f;
        final boolean deferredCall;
        final Object[] locals;
        final List<Object> operands = new ArrayList<>();
        final ArrayDeque<Deferred> deferred = new ArrayDeque<>();
        int place;
        Object returned;
        Long panic;

        Frame(Fn fn, int f, boolean deferredCall) {
            this.f = f;
            this.deferredCall = deferredCall;
            locals = new Object[fn.locals];
            java.util.Arrays.fill(locals, 0L);
        }

        boolean ends() {
            return returned != null || panic != null;
        }
    }

    /** One thing that a waiting strand would do. */
    static final class Wish {
        final Chan chan;
        final boolean sends;
        final Object value;

        Wish(Object chan, boolean sends, Object value) {
            this.chan = chan instanceof Chan c ? c : null;
            this.sends = sends;
            this.value = value;
        }
    }

    static final class Strand {
        final int number;
        final ArrayList<Frame> frames = new ArrayList<>();
        final List<Wish> wishes = new ArrayList<>();
        int status = 1;
        Object result = 0L;

        Strand(int number) {
            this.number = number;
        }

        Frame top() {
            return frames.isEmpty() ? null : frames.get(frames.size() - 1);
        }
    }

    private static final class Panic extends Exception {
        private static final long serialVersionUID = 1L;
        final long number;

        Panic(long number) {
            super(null, null, false, false);
            this.number = number;
        }
    }

    final List<Fn> fns = new ArrayList<>();
    final Object[] globals = new Object[16];
    final Strand[] strands = new Strand[16];
    final ArrayDeque<Strand> ready = new ArrayDeque<>();
    final List<Strand> waiting = new ArrayList<>();
    final ArrayDeque<Long> written = new ArrayDeque<>();
    Strand running;
    int quantum = 10;
    int had;
    int steps;
    int made;
    int objects;
    int state;

    int function(int params, int locals) {
        fns.add(new Fn(params, locals));
        return fns.size() - 1;
    }

    int code(int op, int a) {
        List<int[]> code = fns.get(fns.size() - 1).code;
        code.add(new int[] {op, a});
        return code.size() - 1;
    }

    void begin(int f) {
        java.util.Arrays.fill(globals, 0L);
        java.util.Arrays.fill(strands, null);
        ready.clear();
        waiting.clear();
        written.clear();
        had = 0;
        steps = 0;
        made = 1;
        objects = 0;
        state = 1;
        strands[0] = new Strand(0);
        strands[0].frames.add(new Frame(fns.get(f), f, false));
        running = strands[0];
    }

    int run(int n) {
        int done = 0;
        while (done < n && state == 1) {
            step();
            done++;
        }
        return done;
    }

    private void step() {
        Strand s = running;
        Frame f = s.top();
        int[] instruction = fns.get(f.f).code.get(f.place);
        f.place++;
        steps++;
        had++;
        int op = instruction[0];
        int a = instruction[1];
        int takes = takes(op, a);
        Object[] in = new Object[takes];
        int there = Math.min(takes, f.operands.size());
        // What waits keeps its operands, so they are put back for that.
        List<Object> before = new ArrayList<>(f.operands);
        for (int i = 0; i < there; i++) {
            in[takes - 1 - i] = f.operands.remove(f.operands.size() - 1);
        }
        try {
            if (there < takes || f.operands.size() + pushes(op) > 16) {
                throw new Panic(-3);
            }
            execute(s, f, op, a, in);
            if (!s.wishes.isEmpty()) {
                f.operands.clear();
                f.operands.addAll(before);
                waiting.add(s);
            }
        } catch (Panic panic) {
            f.panic = panic.number;
            f.returned = null;
        }
        unwind(s);
        turn(s, op == 32);
    }

    private void turn(Strand s, boolean yields) {
        if (strands[0].status >= 5) {
            state = strands[0].status == 5 ? 2 : 3;
            running = null;
            return;
        }
        if (s.status == 1 && !yields && had < quantum) {
            return;
        }
        if (s.status == 1) {
            ready.addLast(s);
        }
        running = ready.pollFirst();
        had = 0;
        if (running == null) {
            state = 4;
        }
    }

    private int takes(int op, int a) {
        switch (op) {
            case 18: case 20:
                return fns.get(a).params;
            case 31:
                return 3 * (a % 8);
            case 25:
                return 3;
            case 8: case 9: case 10: case 11: case 12: case 13: case 14: case 23: case 24: case 28:
                return 2;
            case 3: case 5: case 6: case 7: case 15: case 17: case 19: case 22: case 26: case 29: case 30: case 33:
            case 34: case 35:
                return 1;
            default:
                return 0;
        }
    }

    private int pushes(int op) {
        switch (op) {
            case 6: case 8: case 29: case 31:
                return 2;
            case 0: case 1: case 2: case 4: case 9: case 10: case 11: case 12: case 13: case 14: case 15: case 18:
            case 21: case 22: case 24: case 26: case 27: case 36:
                return 1;
            default:
                return 0;
        }
    }

    private static long number(Object value) throws Panic {
        if (value instanceof Long n) {
            return n;
        }
        throw new Panic(-2);
    }

    private static Chan chanOrNil(Object value) throws Panic {
        if (value == NIL) {
            return null;
        }
        if (value instanceof Chan c) {
            return c;
        }
        throw new Panic(-2);
    }

    private static boolean zeroOrNil(Object value) {
        return value == NIL || value instanceof Long n && n == 0;
    }

    private static boolean same(Object x, Object y) {
        return x == y || x instanceof Long n && y instanceof Long m && n.longValue() == m.longValue();
    }

    private static Object[] valuesOf(Object tuple, long index) throws Panic {
        if (tuple instanceof Tuple t && index >= 0 && index < t.values.length) {
            return t.values;
        }
        throw new Panic(-2);
    }

    private void push(Strand s, Object value) {
        s.top().operands.add(value);
    }

    private void execute(Strand s, Frame f, int op, int a, Object[] in) throws Panic {
        switch (op) {
            case 0: push(s, (long) a); break;
            case 1: push(s, NIL); break;
            case 2: push(s, f.locals[a]); break;
            case 3: f.locals[a] = in[0]; break;
            case 4: push(s, globals[a]); break;
            case 5: globals[a] = in[0]; break;
            case 6: push(s, in[0]); push(s, in[0]); break;
            case 7: break;
            case 8: push(s, in[1]); push(s, in[0]); break;
            case 9: push(s, number(in[0]) + number(in[1])); break;
            case 10: push(s, number(in[0]) - number(in[1])); break;
            case 11: push(s, number(in[0]) * number(in[1])); break;
            case 12: {
                long x = number(in[0]);
                long y = number(in[1]);
                if (y == 0) {
                    throw new Panic(-1);
                }
                push(s, x / y);
                break;
            }
            case 13: push(s, number(in[0]) < number(in[1]) ? 1L : 0L); break;
            case 14: push(s, same(in[0], in[1]) ? 1L : 0L); break;
            case 15: push(s, zeroOrNil(in[0]) ? 1L : 0L); break;
            case 16: f.place = a; break;
            case 17:
                if (zeroOrNil(in[0])) {
                    f.place = a;
                }
                break;
            case 18:
                if (s.frames.size() == 30) {
                    throw new Panic(-3);
                }
                s.frames.add(called(a, in, false));
                break;
            case 19: f.returned = in[0]; break;
            case 20: spawn(a, in); break;
            case 21: afford(2 + a); push(s, new Tuple(a)); break;
            case 22: push(s, valuesOf(in[0], a)[a]); break;
            case 23: valuesOf(in[0], a)[a] = in[1]; break;
            case 24: {
                long i = number(in[1]);
                push(s, valuesOf(in[0], i)[(int) i]);
                break;
            }
            case 25: {
                long i = number(in[1]);
                valuesOf(in[0], i)[(int) i] = in[2];
                break;
            }
            case 26:
                if (in[0] instanceof Tuple t) {
                    push(s, (long) t.values.length);
                } else if (in[0] instanceof Chan c) {
                    push(s, (long) c.held.size());
                } else {
                    throw new Panic(-2);
                }
                break;
            case 27: afford(3 + a); push(s, new Chan(a)); break;
            default: executeMore(s, f, op, a, in); break;
        }
    }

    private void executeMore(Strand s, Frame f, int op, int a, Object[] in) throws Panic {
        switch (op) {
            case 28: {
                Chan c = chanOrNil(in[0]);
                if (c == null || !sent(c, in[1])) {
                    s.status = 2;
                    s.wishes.add(new Wish(in[0], true, in[1]));
                }
                break;
            }
            case 29: {
                Chan c = chanOrNil(in[0]);
                if (c == null || !canReceive(c)) {
                    s.status = 3;
                    s.wishes.add(new Wish(in[0], false, null));
                } else {
                    boolean empty = c.held.isEmpty() && c.closed;
                    push(s, received(c));
                    push(s, empty ? 0L : 1L);
                }
                break;
            }
            case 30: close(chanOrNil(in[0])); break;
            case 31: select(s, a, in); break;
            case 32: break;
            case 33: {
                long n = number(in[0]);
                if (written.size() < 2000) {
                    written.addLast(n);
                }
                break;
            }
            case 34:
                if (f.deferred.size() == 6) {
                    throw new Panic(-3);
                }
                f.deferred.addLast(new Deferred(a, in[0]));
                break;
            case 35: throw new Panic(number(in[0]));
            default: {
                Frame below = s.frames.size() > 1 ? s.frames.get(s.frames.size() - 2) : null;
                if (f.deferredCall && below != null && below.panic != null) {
                    push(s, below.panic);
                    below.panic = null;
                    below.returned = 0L;
                } else {
                    push(s, NIL);
                }
                break;
            }
        }
    }

    private Frame called(int f, Object[] in, boolean deferredCall) {
        Frame frame = new Frame(fns.get(f), f, deferredCall);
        System.arraycopy(in, 0, frame.locals, 0, in.length);
        return frame;
    }

    private void spawn(int f, Object[] in) throws Panic {
        for (int i = 0; i < 16; i++) {
            if (strands[i] == null || strands[i].status >= 5) {
                strands[i] = new Strand(i);
                strands[i].frames.add(called(f, in, false));
                ready.addLast(strands[i]);
                made++;
                return;
            }
        }
        throw new Panic(-3);
    }

    private void afford(int cells) throws Panic {
        if (reached(true) + cells > 1200) {
            throw new Panic(-5);
        }
        objects++;
    }

    private Strand waiter(Chan c, boolean sends) {
        for (Strand s : waiting) {
            for (Wish w : s.wishes) {
                if (w.chan == c && w.sends == sends) {
                    return s;
                }
            }
        }
        return null;
    }

    /** A waiting strand goes on with its first wish of that sort: its operands are as if it had not waited. */
    private Object granted(Strand s, Chan c, boolean sends, Object got, long flag) {
        int which = 0;
        while (s.wishes.get(which).chan != c || s.wishes.get(which).sends != sends) {
            which++;
        }
        Object value = s.wishes.get(which).value;
        boolean selects = s.status == 4;
        unwait(s);
        if (selects) {
            push(s, sends ? (Object) 0L : got);
            push(s, (long) which);
        } else if (!sends) {
            push(s, got);
            push(s, flag);
        }
        ready.addLast(s);
        return value;
    }

    private void unwait(Strand s) {
        int drop = s.status == 4 ? 3 * s.wishes.size() : s.status == 2 ? 2 : 1;
        for (int i = 0; i < drop; i++) {
            s.top().operands.remove(s.top().operands.size() - 1);
        }
        waiting.remove(s);
        s.wishes.clear();
        s.status = 1;
    }

    private boolean sent(Chan c, Object value) throws Panic {
        if (c.closed) {
            throw new Panic(-4);
        }
        Strand receiver = waiter(c, false);
        if (receiver != null) {
            granted(receiver, c, false, value, 1);
            return true;
        }
        if (c.held.size() < c.room) {
            c.held.addLast(value);
            return true;
        }
        return false;
    }

    private boolean canReceive(Chan c) {
        return !c.held.isEmpty() || waiter(c, true) != null || c.closed;
    }

    private Object received(Chan c) {
        Strand sender = waiter(c, true);
        if (!c.held.isEmpty()) {
            Object value = c.held.removeFirst();
            if (sender != null) {
                c.held.addLast(granted(sender, c, true, null, 0));
            }
            return value;
        }
        return sender != null ? granted(sender, c, true, null, 0) : 0L;
    }

    private void close(Chan c) throws Panic {
        if (c == null || c.closed) {
            throw new Panic(-4);
        }
        c.closed = true;
        for (Strand s : new ArrayList<>(waiting)) {
            for (Wish w : s.wishes) {
                if (w.chan == c) {
                    if (w.sends) {
                        unwait(s);
                        s.top().panic = -4L;
                        unwind(s);
                        if (s.status == 1) {
                            ready.addLast(s);
                        }
                    } else {
                        granted(s, c, false, 0L, 0);
                    }
                    break;
                }
            }
        }
    }

    private void select(Strand s, int a, Object[] in) throws Panic {
        int n = a % 8;
        List<Wish> wishes = new ArrayList<>();
        for (int i = 0; i < n; i++) {
            chanOrNil(in[3 * i]);
            wishes.add(new Wish(in[3 * i], number(in[3 * i + 1]) != 0, in[3 * i + 2]));
        }
        for (int i = 0; i < n; i++) {
            Wish w = wishes.get(i);
            if (w.chan == null) {
                continue;
            }
            if (w.sends && sent(w.chan, w.value)) {
                push(s, 0L);
                push(s, (long) i);
                return;
            }
            if (!w.sends && canReceive(w.chan)) {
                push(s, received(w.chan));
                push(s, (long) i);
                return;
            }
        }
        if (a >= 8) {
            push(s, 0L);
            push(s, -1L);
        } else {
            s.status = 4;
            s.wishes.addAll(wishes);
        }
    }

    private void unwind(Strand s) {
        while (s.top() != null && s.top().ends()) {
            Frame f = s.top();
            if (!f.deferred.isEmpty()) {
                Deferred d = f.deferred.removeLast();
                if (s.frames.size() == 30) {
                    f.panic = -3L;
                    f.returned = null;
                } else {
                    s.frames.add(called(d.f, new Object[] {d.value}, true));
                }
                continue;
            }
            s.frames.remove(s.frames.size() - 1);
            Frame below = s.top();
            if (below == null) {
                s.status = f.panic != null ? 6 : 5;
                s.result = f.panic != null ? f.panic : f.returned;
            } else if (f.panic != null) {
                below.panic = f.panic;
                below.returned = null;
            } else if (!f.deferredCall) {
                below.operands.add(f.returned);
            }
        }
    }

    long take() {
        return written.isEmpty() ? 0 : written.removeFirst();
    }

    int strand(int s, int what) {
        Strand strand = strands[s];
        if (strand == null) {
            return 0;
        }
        Frame f = strand.top();
        switch (what) {
            case 0: return strand.status;
            case 1: return strand.frames.size();
            case 2: return f == null ? 0 : f.f;
            case 3: return f == null ? 0 : f.place;
            case 4: return f == null ? 0 : f.operands.size();
            case 5: return f == null ? 0 : f.deferred.size();
            default: return strand.result instanceof Long n ? (int) n.longValue() : 0;
        }
    }

    private Object operandAt(int s, int k) {
        List<Object> operands = strands[s].top().operands;
        return operands.get(operands.size() - 1 - k);
    }

    long operand(int s, int k) {
        return operandAt(s, k) instanceof Long n ? n : 0;
    }

    int kind(int s, int k) {
        Object value = operandAt(s, k);
        return value instanceof Long ? 0 : value == NIL ? 1 : value instanceof Tuple ? 2 : 3;
    }

    int count(int what) {
        switch (what) {
            case 0: return steps;
            case 1: return made;
            case 2: {
                int n = 0;
                for (Strand s : strands) {
                    n += s != null && s.status < 5 ? 1 : 0;
                }
                return n;
            }
            case 3: return written.size();
            case 4: return running == null ? -1 : running.number;
            case 5: return reached(false);
            case 6: return reached(true);
            case 7: return objects;
            default: return globals[what - 20] instanceof Long n ? (int) n.longValue() : 0;
        }
    }

    private int reached(boolean cells) {
        Map<Object, Object> seen = new IdentityHashMap<>();
        ArrayDeque<Object> todo = new ArrayDeque<>(List.of(globals));
        for (Strand s : strands) {
            if (s == null) {
                continue;
            }
            for (Frame f : s.frames) {
                todo.addAll(List.of(f.locals));
                todo.addAll(f.operands);
                for (Deferred d : f.deferred) {
                    todo.add(d.value);
                }
                if (f.returned != null) {
                    todo.add(f.returned);
                }
            }
        }
        int sum = 0;
        while (!todo.isEmpty()) {
            Object value = todo.pop();
            if (value instanceof Tuple t && seen.put(t, t) == null) {
                sum += cells ? 2 + t.values.length : 1;
                todo.addAll(List.of(t.values));
            } else if (value instanceof Chan c && seen.put(c, c) == null) {
                sum += cells ? 3 + c.room : 1;
                todo.addAll(c.held);
            }
        }
        return sum;
    }

    long digest() {
        Map<Object, Integer> met = new IdentityHashMap<>();
        long sum = 7;
        for (Object g : globals) {
            sum = digest(sum, g, met);
        }
        return sum;
    }

    private static long digest(long sum, Object value, Map<Object, Integer> met) {
        if (value instanceof Long n) {
            return 31 * sum + n;
        }
        if (value == NIL) {
            return 31 * sum + 1;
        }
        Integer before = met.get(value);
        if (before != null) {
            return 31 * (31 * sum + 2) + before;
        }
        met.put(value, met.size() + 1);
        Object[] inside = value instanceof Tuple t ? t.values : ((Chan) value).held.toArray();
        long next = 31 * (31 * sum + (value instanceof Tuple ? 3 : 4)) + inside.length;
        for (Object x : inside) {
            next = digest(next, x, met);
        }
        return next;
    }
}
