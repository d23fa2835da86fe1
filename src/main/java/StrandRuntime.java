import java.util.Arrays;

/** A runtime for programs of many strands, with a heap that is marked and swept while they go on. */
public final class StrandRuntime {
    private static final int MOST_FUNCTIONS = 32;
    private static final int MOST_PARAMS = 4;
    private static final int MOST_LOCALS = 12;
    private static final int MOST_CODE = 1500;
    private static final int MOST_GLOBALS = 16;
    private static final int MOST_STRANDS = 16;
    private static final int MOST_FRAMES = 30;
    private static final int MOST_OPERANDS = 16;
    private static final int MOST_DEFERRED = 6;
    private static final int MOST_VALUES = 16;
    private static final int MOST_ROOM = 8;
    private static final int MOST_CASES = 4;
    private static final int MOST_CELLS = 1200;
    // The smallest object, a tuple of no values, has two cells.
    private static final int MOST_OBJECTS = 600;
    private static final int MOST_QUANTUM = 100;
    private static final int MOST_PACE = 50;
    private static final int MOST_STEPS = 1000;
    private static final int MOST_WRITTEN = 2000;
    private static final int NONE = -1;

    // A value is a number beside a tag. The tag of an object is its place in the heap and FIRST_OBJECT;
    // the number beside a reference is always 0, so that two values are the same if both parts are.
    private static final int NUMBER = 0;
    private static final int NIL = 1;
    private static final int FIRST_OBJECT = 2;

    // What stands at a place of the heap; kind() answers these of an object.
    private static final int FREE = 0;
    private static final int TUPLE = 2;
    private static final int CHANNEL = 3;

    // How a strand is, as strand(s, 0) answers it.
    private static final int NEVER = 0;
    private static final int READY = 1;
    private static final int SENDS = 2;
    private static final int RECEIVES = 3;
    private static final int SELECTS = 4;
    private static final int RETURNED = 5;
    private static final int PANICKED = 6;

    // How the run is, as state() answers it.
    private static final int NOT_BEGUN = 0;
    private static final int GOING = 1;
    private static final int MAIN_RETURNED = 2;
    private static final int MAIN_PANICKED = 3;
    private static final int ALL_WAIT = 4;

    // How a frame is: it goes on, or it ends and has its deferred calls before it is left.
    private static final int GOES_ON = 0;
    private static final int RETURNS = 1;
    private static final int PANICS = 2;

    // The numbers of the panics; FINE is what an instruction answers that does not panic.
    private static final int FINE = 0;
    private static final int BY_ZERO = -1;
    private static final int NOT_AS_WANTED = -2;
    private static final int TOO_MANY = -3;
    private static final int CLOSED = -4;
    private static final int NO_CELLS = -5;

    private static final int PUSH = 0;
    private static final int PUSH_NIL = 1;
    private static final int GET_LOCAL = 2;
    private static final int SET_LOCAL = 3;
    private static final int GET_GLOBAL = 4;
    private static final int SET_GLOBAL = 5;
    private static final int DOUBLE = 6;
    private static final int POP = 7;
    private static final int SWAP = 8;
    private static final int ADD = 9;
    private static final int SUBTRACT = 10;
    private static final int MULTIPLY = 11;
    private static final int DIVIDE = 12;
    private static final int LESS = 13;
    private static final int SAME = 14;
    private static final int IS_ZERO = 15;
    private static final int JUMP = 16;
    private static final int JUMP_ZERO = 17;
    private static final int CALL = 18;
    private static final int RETURN = 19;
    private static final int SPAWN = 20;
    private static final int NEW_TUPLE = 21;
    private static final int GET_VALUE = 22;
    private static final int SET_VALUE = 23;
    private static final int GET_AT = 24;
    private static final int SET_AT = 25;
    private static final int SIZE = 26;
    private static final int NEW_CHANNEL = 27;
    private static final int SEND = 28;
    private static final int RECEIVE = 29;
    private static final int CLOSE = 30;
    private static final int SELECT = 31;
    private static final int YIELD = 32;
    private static final int WRITE = 33;
    private static final int DEFER = 34;
    private static final int PANIC = 35;
    private static final int RECOVER = 36;
    private static final int LAST_OP = 36;

    // A select's A: how many cases, and this if it does not wait.
    private static final int WITHOUT_WAITING = 8;
    private static final int CASE_MASK = 7;
    private static final int CASE_OPERANDS = 3;

    // How many operands each instruction takes and pushes; calls and selects take as many as Program.takes says.
    private static final int[] TAKES = {
        0, 0, 0, 1, 0, 1, 1, 1, 2, 2, 2, 2, 2, 2, 2, 1, 0, 1, 0,
        1, 0, 0, 1, 2, 2, 3, 1, 0, 2, 1, 1, 0, 0, 1, 1, 1, 0};
    private static final int[] PUSHES = {
        1, 1, 1, 0, 1, 0, 2, 0, 2, 1, 1, 1, 1, 1, 1, 1, 0, 0, 1,
        0, 0, 1, 1, 0, 1, 0, 1, 1, 0, 2, 0, 2, 0, 0, 0, 0, 1};

    private final Program program;
    private final World world;
    private final Heap heap;
    private final Digest digester;
    private final Machine machine;

    public StrandRuntime() {
        program = new Program();
        world = new World(program);
        heap = new Heap(world);
        digester = new Digest(heap);
        machine = new Machine(program, world, heap);
    }

    public int function(int params, int locals) throws IllegalArgumentException, IllegalStateException {
        if (params < 0 || params > MOST_PARAMS || locals < params || locals > MOST_LOCALS) {
            throw new IllegalArgumentException();
        }
        if (program.functions >= MOST_FUNCTIONS || machine.phase != NOT_BEGUN) {
            throw new IllegalStateException();
        }
        return program.addFunction(params, locals);
    }

    public int code(int op, int a) throws IllegalArgumentException, IllegalStateException {
        if (op < 0 || op > LAST_OP) {
            throw new IllegalArgumentException();
        }
        if (program.functions == 0 || program.size >= MOST_CODE || machine.phase != NOT_BEGUN) {
            throw new IllegalStateException();
        }
        if (!program.allows(op, a)) {
            throw new IllegalArgumentException();
        }
        return program.addInstruction(op, a);
    }

    public void begin(int f) throws IllegalArgumentException {
        if (f < 0 || f >= program.functions || program.paramsOf(f) != 0 || !program.isWhole()) {
            throw new IllegalArgumentException();
        }
        machine.reset();
        machine.launch(f);
    }

    public int clear() {
        int functions = program.functions;
        machine.reset();
        program.forget();
        return functions;
    }

    public int quantum(int n) throws IllegalArgumentException {
        if (n < 1 || n > MOST_QUANTUM) {
            throw new IllegalArgumentException();
        }
        int before = machine.quantum;
        machine.quantum = n;
        return before;
    }

    public int pace(int n) throws IllegalArgumentException {
        if (n < 0 || n > MOST_PACE) {
            throw new IllegalArgumentException();
        }
        int before = machine.pace;
        machine.pace = n;
        return before;
    }

    public int run(int n) throws IllegalArgumentException, IllegalStateException {
        if (n < 1 || n > MOST_STEPS) {
            throw new IllegalArgumentException();
        }
        if (machine.phase != GOING) {
            throw new IllegalStateException();
        }
        int done = 0;
        while (done < n && machine.phase == GOING) {
            machine.step();
            done++;
        }
        return done;
    }

    public int state() {
        return machine.phase;
    }

    public long take() {
        return machine.takeWritten();
    }

    public int strand(int s, int what) throws IndexOutOfBoundsException, IllegalArgumentException {
        if (s < 0 || s >= MOST_STRANDS) {
            throw new IndexOutOfBoundsException();
        }
        if (what < 0 || what > 6) {
            throw new IllegalArgumentException();
        }
        return world.strands[s].fact(what);
    }

    public long operand(int s, int k) throws IndexOutOfBoundsException {
        Row operands = world.operandsOf(s);
        if (operands == null || k < 0 || k >= operands.size) {
            throw new IndexOutOfBoundsException();
        }
        return operands.number(operands.size - 1 - k);
    }

    public int kind(int s, int k) throws IndexOutOfBoundsException {
        Row operands = world.operandsOf(s);
        if (operands == null || k < 0 || k >= operands.size) {
            throw new IndexOutOfBoundsException();
        }
        return heap.kindOf(operands.tag(operands.size - 1 - k));
    }

    public int count(int what) throws IllegalArgumentException {
        if (what >= 20 && what < 20 + MOST_GLOBALS) {
            return (int) world.globals.number(what - 20);
        }
        switch (what) {
            case 0:
                return machine.steps;
            case 1:
                return world.made;
            case 2:
                return world.alive();
            case 3:
                return machine.untaken;
            case 4:
                return world.running;
            case 5:
                return heap.reachedObjects();
            case 6:
                return heap.reachedCells();
            case 7:
                return heap.made;
            default:
                throw new IllegalArgumentException();
        }
    }

    public long digest() {
        return digester.ofAll(world.globals);
    }

    public int collect() {
        heap.collectWhole();
        return heap.objects;
    }

    public int check() {
        return heap.faults();
    }

    /** The functions and, one function behind the other, their instructions. */
    private static final class Program {
        private final int[] params = new int[MOST_FUNCTIONS];
        private final int[] locals = new int[MOST_FUNCTIONS];
        private final int[] first = new int[MOST_FUNCTIONS];
        private final int[] length = new int[MOST_FUNCTIONS];
        private final int[] ops = new int[MOST_CODE];
        private final int[] args = new int[MOST_CODE];
        private int functions;
        private int size;

        int addFunction(int withParams, int withLocals) {
            if (functions >= MOST_FUNCTIONS) {
                return NONE;
            }
            params[functions] = withParams;
            locals[functions] = withLocals;
            first[functions] = size;
            length[functions] = 0;
            functions++;
            return functions - 1;
        }

        int addInstruction(int op, int a) {
            if (functions == 0 || size >= MOST_CODE) {
                return NONE;
            }
            ops[size] = op;
            args[size] = a;
            size++;
            length[functions - 1]++;
            return length[functions - 1] - 1;
        }

        void forget() {
            functions = 0;
            size = 0;
        }

        int paramsOf(int f) {
            return f >= 0 && f < functions ? params[f] : 0;
        }

        int localsOf(int f) {
            return f >= 0 && f < functions ? locals[f] : 0;
        }

        /** Where the next instruction of a frame stands among all of them. */
        int nextOf(Frame frame) {
            int f = frame.function;
            boolean isThere = f >= 0 && f < functions && frame.place >= 0 && frame.place < length[f];
            return isThere ? first[f] + frame.place : NONE;
        }

        int takes(int op, int a) {
            if (op == CALL || op == SPAWN) {
                return paramsOf(a);
            }
            return op == SELECT ? CASE_OPERANDS * (a & CASE_MASK) : TAKES[op];
        }

        /** Whether the last function may have this instruction, as far as that can be told before all are there. */
        boolean allows(int op, int a) {
            switch (op) {
                case GET_LOCAL:
                case SET_LOCAL:
                    return a >= 0 && a < localsOf(functions - 1);
                case GET_GLOBAL:
                case SET_GLOBAL:
                    return a >= 0 && a < MOST_GLOBALS;
                case NEW_TUPLE:
                    return a >= 0 && a <= MOST_VALUES;
                case GET_VALUE:
                case SET_VALUE:
                    return a >= 0 && a < MOST_VALUES;
                case NEW_CHANNEL:
                    return a >= 0 && a <= MOST_ROOM;
                case SELECT:
                    int cases = a >= WITHOUT_WAITING ? a - WITHOUT_WAITING : a;
                    return cases >= 1 && cases <= MOST_CASES;
                default:
                    return true;
            }
        }

        boolean isWhole() {
            for (int f = 0; f < functions; f++) {
                if (!endsWell(f)) {
                    return false;
                }
                for (int place = 0; place < length[f]; place++) {
                    if (!leadsSomewhere(f, ops[first[f] + place], args[first[f] + place])) {
                        return false;
                    }
                }
            }
            return true;
        }

        private boolean endsWell(int f) {
            if (length[f] == 0) {
                return false;
            }
            int last = ops[first[f] + length[f] - 1];
            return last == JUMP || last == RETURN || last == PANIC;
        }

        private boolean leadsSomewhere(int f, int op, int a) {
            switch (op) {
                case JUMP:
                case JUMP_ZERO:
                    return a >= 0 && a < length[f];
                case CALL:
                case SPAWN:
                    return a >= 0 && a < functions;
                case DEFER:
                    return a >= 0 && a < functions && params[a] == 1;
                default:
                    return true;
            }
        }
    }

    /** Values in a row: locals, operands, arguments of deferred calls, globals, what is in an object. */
    private static final class Row {
        private final long[] numbers;
        private final int[] tags;
        private int size;

        Row(int most) {
            numbers = new long[most];
            tags = new int[most];
        }

        long number(int i) {
            return i >= 0 && i < size ? numbers[i] : 0;
        }

        int tag(int i) {
            return i >= 0 && i < size ? tags[i] : NUMBER;
        }

        boolean isNumber(int i) {
            return i >= 0 && i < size && tags[i] == NUMBER;
        }

        boolean isZeroOrNil(int i) {
            return i >= 0 && i < size && numbers[i] == 0 && tags[i] < FIRST_OBJECT;
        }

        void put(int i, long number, int tag) {
            if (i >= 0 && i < size) {
                numbers[i] = number;
                tags[i] = tag;
            }
        }

        void push(long number, int tag) {
            if (size < numbers.length) {
                numbers[size] = number;
                tags[size] = tag;
                size++;
            }
        }

        void drop(int n) {
            size = n < size ? size - n : 0;
        }

        void dropFirst() {
            for (int i = 1; i < size; i++) {
                numbers[i - 1] = numbers[i];
                tags[i - 1] = tags[i];
            }
            drop(1);
        }

        void becomeZeros(int n) {
            size = n < numbers.length ? n : numbers.length;
            for (int i = 0; i < size; i++) {
                numbers[i] = 0;
                tags[i] = NUMBER;
            }
        }
    }

    /** A call that stands open. Frames are used again, so that calls make no new objects. */
    private static final class Frame {
        private final Row locals = new Row(MOST_LOCALS);
        private final Row operands = new Row(MOST_OPERANDS);
        private final Row deferred = new Row(MOST_DEFERRED);
        private final int[] deferredFunctions = new int[MOST_DEFERRED];
        // What is returned, while deferred calls go on; or, alone, the number of the panic.
        private final Row outcome = new Row(1);
        private int function;
        private int place;
        private int ending;

        void open(int f, int howManyLocals) {
            function = f;
            place = 0;
            ending = GOES_ON;
            locals.becomeZeros(howManyLocals);
            operands.size = 0;
            deferred.size = 0;
            outcome.size = 0;
        }

        void end(int how, long number, int tag) {
            ending = how;
            outcome.size = 0;
            outcome.push(number, tag);
        }

        boolean defer(int f) {
            int at = deferred.size;
            if (at >= MOST_DEFERRED) {
                return false;
            }
            int top = operands.size - 1;
            deferredFunctions[at] = f;
            deferred.push(operands.number(top), operands.tag(top));
            operands.drop(1);
            return true;
        }
    }

    /**
     * A strand with its frames: calls, returns and panics are its own matter alone. A frame that ends has
     * nothing above it but its deferred calls, so what stands above one that goes on was called by it.
     */
    private static final class Strand {
        private final Program program;
        private final int number;
        private final Frame[] frames = new Frame[MOST_FRAMES];
        private int depth;
        private int status;
        private int waitsSince;
        private int cases;
        private long result;

        Strand(Program ofProgram, int ownNumber) {
            program = ofProgram;
            number = ownNumber;
        }

        void renew(int withStatus) {
            depth = 0;
            status = withStatus;
            result = 0;
        }

        boolean isThere() {
            return status != NEVER && status != RETURNED && status != PANICKED;
        }

        Frame top() {
            return depth > 0 && depth <= MOST_FRAMES ? frames[depth - 1] : null;
        }

        /** A call with arguments that stand in a row from some place on; false if there is no frame for it. */
        boolean enter(int f, Row from, int firstArgument) {
            if (depth >= MOST_FRAMES) {
                return false;
            }
            Frame frame = frames[depth];
            if (frame == null) {
                frame = new Frame();
                frames[depth] = frame;
            }
            frame.open(f, program.localsOf(f));
            int params = program.paramsOf(f);
            for (int i = 0; i < params; i++) {
                frame.locals.put(i, from.number(firstArgument + i), from.tag(firstArgument + i));
            }
            depth++;
            return true;
        }

        /** The last frame returns or panics: deferred calls, and frames that are left by it, cost no step. */
        void finish(int how, long withNumber, int tag) {
            Frame last = top();
            if (last != null) {
                last.end(how, withNumber, tag);
            }
            // Each turn ends a deferred call or a frame, or is the last one.
            for (int turn = 0; turn <= MOST_FRAMES * (MOST_DEFERRED + 1); turn++) {
                Frame frame = top();
                if (frame == null || frame.ending == GOES_ON) {
                    return;
                }
                if (frame.deferred.size == 0) {
                    leave(frame);
                    continue;
                }
                int at = frame.deferred.size - 1;
                boolean entered = enter(frame.deferredFunctions[at], frame.deferred, at);
                frame.deferred.drop(1);
                if (!entered) {
                    frame.end(PANICS, TOO_MANY, NUMBER);
                }
            }
        }

        private void leave(Frame frame) {
            depth--;
            Frame caller = top();
            long withNumber = frame.outcome.number(0);
            if (caller == null) {
                status = frame.ending == PANICS ? PANICKED : RETURNED;
                result = withNumber;
            } else if (frame.ending == PANICS) {
                caller.end(PANICS, withNumber, NUMBER);
            } else if (caller.ending == GOES_ON) {
                caller.operands.push(withNumber, frame.outcome.tag(0));
            }
        }

        void recover() {
            Frame frame = top();
            if (frame == null) {
                return;
            }
            Frame ended = depth > 1 ? frames[depth - 2] : null;
            if (ended != null && ended.ending == PANICS) {
                frame.operands.push(ended.outcome.number(0), NUMBER);
                ended.end(RETURNS, 0, NUMBER);
            } else {
                frame.operands.push(0, NIL);
            }
        }

        int fact(int what) {
            Frame frame = top();
            if (what == 0) {
                return status;
            }
            if (what == 6) {
                return (int) result;
            }
            if (frame == null) {
                return 0;
            }
            switch (what) {
                case 1:
                    return depth;
                case 2:
                    return frame.function;
                case 3:
                    return frame.place;
                case 4:
                    return frame.operands.size;
                default:
                    return frame.deferred.size;
            }
        }
    }

    /** The globals, the strands, and whose turn it is. */
    private static final class World {
        private final Row globals = new Row(MOST_GLOBALS);
        private final Strand[] strands = new Strand[MOST_STRANDS];
        private final int[] queue = new int[MOST_STRANDS];
        private int queueFirst;
        private int queueSize;
        private int running;
        private int stepsInTurn;
        private int made;
        private int waits;

        World(Program program) {
            for (int s = 0; s < MOST_STRANDS; s++) {
                strands[s] = new Strand(program, s);
            }
            reset();
        }

        void reset() {
            globals.becomeZeros(MOST_GLOBALS);
            for (int s = 0; s < MOST_STRANDS; s++) {
                strands[s].renew(NEVER);
            }
            queueFirst = 0;
            queueSize = 0;
            running = NONE;
            stepsInTurn = 0;
            made = 0;
            waits = 0;
        }

        Strand runner() {
            return running >= 0 && running < MOST_STRANDS ? strands[running] : null;
        }

        Row operandsOf(int s) {
            Frame frame = s >= 0 && s < MOST_STRANDS ? strands[s].top() : null;
            return frame == null ? null : frame.operands;
        }

        int alive() {
            int there = 0;
            for (int s = 0; s < MOST_STRANDS; s++) {
                if (strands[s].isThere()) {
                    there++;
                }
            }
            return there;
        }

        /** A new strand, ready behind all others; false if all sixteen are there. */
        boolean spawn(int f, Row from, int firstArgument) {
            for (int s = 0; s < MOST_STRANDS; s++) {
                if (!strands[s].isThere()) {
                    strands[s].renew(READY);
                    strands[s].enter(f, from, firstArgument);
                    made++;
                    lineUp(strands[s]);
                    return true;
                }
            }
            return false;
        }

        void lineUp(Strand strand) {
            strand.status = READY;
            if (queueSize < MOST_STRANDS) {
                queue[(queueFirst + queueSize) % MOST_STRANDS] = strand.number;
                queueSize++;
            }
        }

        void runNext() {
            stepsInTurn = 0;
            running = NONE;
            if (queueSize > 0) {
                running = queue[queueFirst];
                queueFirst = (queueFirst + 1) % MOST_STRANDS;
                queueSize--;
            }
        }

        void await(Strand strand, int status, int cases) {
            strand.status = status;
            strand.cases = cases;
            strand.waitsSince = waits;
            waits++;
        }

        void meetRoots(Tracer tracer) {
            tracer.meet(globals, 0, MOST_GLOBALS);
            for (int s = 0; s < MOST_STRANDS; s++) {
                Strand strand = strands[s];
                for (int depth = 0; depth < strand.depth && depth < MOST_FRAMES; depth++) {
                    Frame frame = strand.frames[depth];
                    if (frame != null) {
                        tracer.meet(frame.locals, 0, MOST_LOCALS);
                        tracer.meet(frame.operands, 0, MOST_OPERANDS);
                        tracer.meet(frame.deferred, 0, MOST_DEFERRED);
                        tracer.meet(frame.outcome, 0, 1);
                    }
                }
            }
        }
    }

    /** A tuple or a channel, or what was one: places of the heap are used again. */
    private static final class Thing {
        private final Row values = new Row(MOST_VALUES);
        private int type;
        private int room;
        private int cells;
        private boolean isClosed;

        void become(int newType, int size) {
            type = newType;
            room = size;
            cells = cellsOf(newType, size);
            isClosed = false;
            values.becomeZeros(newType == TUPLE ? size : 0);
        }

        static int cellsOf(int type, int size) {
            return type == TUPLE ? 2 + size : 3 + size;
        }
    }

    /** Marks: white is not met yet, grey is met and not looked into yet, black is both. */
    private static final class Tracer {
        private static final int WHITE = 0;
        private static final int GREY = 1;
        private static final int BLACK = 2;

        private final int[] colours = new int[MOST_OBJECTS];
        private final int[] greys = new int[MOST_OBJECTS];
        private int greySize;
        private int objects;
        private int cells;

        void wipe() {
            Arrays.fill(colours, WHITE);
            greySize = 0;
            objects = 0;
            cells = 0;
        }

        void meet(Row row, int from, int till) {
            int end = till < row.size ? till : row.size;
            for (int i = from; i < end; i++) {
                int place = row.tags[i] - FIRST_OBJECT;
                if (place >= 0 && place < MOST_OBJECTS && colours[place] == WHITE && greySize < MOST_OBJECTS) {
                    colours[place] = GREY;
                    greys[greySize] = place;
                    greySize++;
                }
            }
        }

        /** Looks into one grey object; false if there is none. */
        boolean lookIntoOne(Thing[] things) {
            if (greySize == 0) {
                return false;
            }
            greySize--;
            int place = greys[greySize];
            colours[place] = BLACK;
            Thing thing = things[place];
            if (thing != null && thing.type != FREE) {
                objects++;
                cells += thing.cells;
                meet(thing.values, 0, MOST_VALUES);
            }
            return true;
        }

        void lookIntoAll(Thing[] things) {
            int looked = 0;
            while (looked <= MOST_OBJECTS && lookIntoOne(things)) {
                looked++;
            }
        }

        void becomeLike(Tracer other) {
            System.arraycopy(other.colours, 0, colours, 0, MOST_OBJECTS);
            System.arraycopy(other.greys, 0, greys, 0, MOST_OBJECTS);
            greySize = other.greySize;
        }
    }

    /**
     * The objects and their collector. A round marks what could be reached when it began: what is made
     * meanwhile is black, and what is taken out of an object while marking goes on is met (see loses).
     */
    private static final class Heap {
        private static final int RESTS = 0;
        private static final int MARKS = 1;
        private static final int SWEEPS = 2;
        // A round begins when so many cells were made since the last one began.
        private static final int CELLS_TO_BEGIN = 150;

        private final World world;
        private final Thing[] things = new Thing[MOST_OBJECTS];
        private final int[] free = new int[MOST_OBJECTS];
        private final Tracer beside = new Tracer();
        private final Tracer whole = new Tracer();
        private final Tracer foreseen = new Tracer();
        private final int[] seats = new int[MOST_OBJECTS];
        private int freeSize;
        private int objects;
        private int cells;
        private int made;
        private int round;
        private int sweepAt;
        private int youngCells;

        Heap(World ofWorld) {
            world = ofWorld;
            reset();
        }

        void reset() {
            for (int place = 0; place < MOST_OBJECTS; place++) {
                Thing thing = things[place];
                if (thing != null) {
                    thing.type = FREE;
                }
                free[place] = MOST_OBJECTS - 1 - place;
            }
            freeSize = MOST_OBJECTS;
            objects = 0;
            cells = 0;
            made = 0;
            rest();
        }

        private void rest() {
            round = RESTS;
            youngCells = 0;
            beside.wipe();
        }

        Thing thingAt(int place) {
            return place >= 0 && place < MOST_OBJECTS ? things[place] : null;
        }

        /** The tuple or channel of a tag; null if it is nothing of that type. */
        Thing thingOf(int tag, int type) {
            Thing thing = thingAt(tag - FIRST_OBJECT);
            return thing != null && thing.type == type ? thing : null;
        }

        int kindOf(int tag) {
            Thing thing = thingAt(tag - FIRST_OBJECT);
            return thing == null ? tag : thing.type;
        }

        boolean hasCellsFor(int type, int size) {
            return cells + Thing.cellsOf(type, size) <= MOST_CELLS && freeSize > 0;
        }

        /** The tag of a new object; NIL if there are no cells for it. */
        int make(int type, int size) {
            if (!hasCellsFor(type, size)) {
                return NIL;
            }
            freeSize--;
            int place = free[freeSize];
            Thing thing = things[place];
            if (thing == null) {
                thing = new Thing();
                things[place] = thing;
            }
            thing.become(type, size);
            boolean black = round == MARKS || round == SWEEPS && place >= sweepAt;
            beside.colours[place] = black ? Tracer.BLACK : Tracer.WHITE;
            cells += thing.cells;
            youngCells += thing.cells;
            objects++;
            made++;
            return place + FIRST_OBJECT;
        }

        /** To be called before an object loses a value that it has, or marking could miss that. */
        void loses(Row values, int i) {
            if (round == MARKS) {
                beside.meet(values, i, i + 1);
            }
        }

        private void release(int place) {
            Thing thing = things[place];
            if (thing == null || thing.type == FREE || freeSize >= MOST_OBJECTS) {
                return;
            }
            cells -= thing.cells;
            objects--;
            thing.type = FREE;
            free[freeSize] = place;
            freeSize++;
        }

        /** So much of a round as the pace allows beside one step. */
        void work(int pace) {
            for (int done = 0; done < pace; done++) {
                if (round == RESTS && youngCells < CELLS_TO_BEGIN) {
                    return;
                }
                if (round == RESTS) {
                    youngCells = 0;
                    round = MARKS;
                    world.meetRoots(beside);
                } else if (round == SWEEPS) {
                    sweepOne();
                } else if (!beside.lookIntoOne(things)) {
                    round = SWEEPS;
                    sweepAt = 0;
                }
            }
        }

        private void sweepOne() {
            if (sweepAt < MOST_OBJECTS) {
                if (beside.colours[sweepAt] == Tracer.WHITE) {
                    release(sweepAt);
                }
                beside.colours[sweepAt] = Tracer.WHITE;
                sweepAt++;
            }
            if (sweepAt >= MOST_OBJECTS) {
                round = RESTS;
            }
        }

        private void reachWhole() {
            whole.wipe();
            world.meetRoots(whole);
            whole.lookIntoAll(things);
        }

        int reachedObjects() {
            reachWhole();
            return whole.objects;
        }

        int reachedCells() {
            reachWhole();
            return whole.cells;
        }

        void collectWhole() {
            reachWhole();
            for (int place = 0; place < MOST_OBJECTS; place++) {
                if (whole.colours[place] == Tracer.WHITE) {
                    release(place);
                }
            }
            rest();
        }

        int faults() {
            reachWhole();
            return faultsOfPlaces() + faultsOfMarks();
        }

        private boolean isUsed(int place) {
            Thing thing = things[place];
            return thing != null && thing.type != FREE;
        }

        private int faultsOfPlaces() {
            Arrays.fill(seats, 0);
            for (int i = 0; i < freeSize; i++) {
                seats[free[i]]++;
            }
            int wrong = 0;
            int usedCells = 0;
            for (int place = 0; place < MOST_OBJECTS; place++) {
                Thing thing = things[place];
                if (thing != null && thing.type != FREE) {
                    seats[place]++;
                    usedCells += thing.cells;
                } else if (whole.colours[place] != Tracer.WHITE) {
                    wrong++;
                }
                if (seats[place] != 1) {
                    wrong++;
                }
            }
            return usedCells == cells ? wrong : wrong + 1;
        }

        private int faultsOfMarks() {
            foreseen.becomeLike(beside);
            foreseen.lookIntoAll(things);
            int wrong = 0;
            int greys = 0;
            for (int place = 0; place < MOST_OBJECTS; place++) {
                int colour = beside.colours[place];
                if (colour == Tracer.GREY) {
                    greys++;
                }
                boolean isDone = round == RESTS || round == SWEEPS && place < sweepAt;
                boolean mustBeWhite = isDone || !isUsed(place);
                boolean mustBeMarked = !isDone && whole.colours[place] != Tracer.WHITE;
                if (mustBeWhite && colour != Tracer.WHITE) {
                    wrong++;
                }
                if (mustBeMarked && foreseen.colours[place] == Tracer.WHITE) {
                    wrong++;
                }
            }
            return greys == beside.greySize ? wrong : wrong + 1;
        }
    }

    /** The digest of what globals lead to; it keeps its way in rows, as chains may be too long for recursion. */
    private static final class Digest {
        // Each value of each object is passed once, and each object left once.
        private static final int MOST_TURNS = MOST_OBJECTS * (MOST_VALUES + 2);

        private final Heap heap;
        private final int[] metAs = new int[MOST_OBJECTS];
        private final int[] way = new int[MOST_OBJECTS];
        private final int[] nextValue = new int[MOST_OBJECTS];
        private int depth;
        private int met;
        private long sum;

        Digest(Heap ofHeap) {
            heap = ofHeap;
        }

        long ofAll(Row globals) {
            Arrays.fill(metAs, 0);
            depth = 0;
            met = 0;
            sum = 7;
            for (int g = 0; g < globals.size; g++) {
                addValue(globals, g);
                follow();
            }
            return sum;
        }

        private void follow() {
            for (int turn = 0; turn < MOST_TURNS && depth > 0; turn++) {
                Thing thing = heap.thingAt(way[depth - 1]);
                int i = nextValue[depth - 1];
                if (thing == null || i >= thing.values.size) {
                    depth--;
                } else {
                    nextValue[depth - 1] = i + 1;
                    addValue(thing.values, i);
                }
            }
        }

        private void addValue(Row row, int i) {
            int tag = row.tag(i);
            Thing thing = heap.thingAt(tag - FIRST_OBJECT);
            if (thing == null) {
                add(tag == NIL ? 1 : row.number(i));
                return;
            }
            int place = tag - FIRST_OBJECT;
            if (metAs[place] > 0) {
                add(2);
                add(metAs[place]);
                return;
            }
            met++;
            metAs[place] = met;
            add(thing.type == TUPLE ? 3 : 4);
            add(thing.values.size);
            if (depth < MOST_OBJECTS) {
                way[depth] = place;
                nextValue[depth] = 0;
                depth++;
            }
        }

        private void add(long item) {
            sum = 31 * sum + item;
        }
    }

    /** Sending, receiving, closing and selecting. Who waits for what is read off the operands of who waits. */
    private static final class Channels {
        private final World world;
        private final Heap heap;

        Channels(World ofWorld, Heap ofHeap) {
            world = ofWorld;
            heap = ofHeap;
        }

        int send(Strand strand, Row operands) {
            int at = operands.size - 2;
            int tag = operands.tag(at);
            Thing channel = heap.thingOf(tag, CHANNEL);
            if (channel == null && tag != NIL) {
                return NOT_AS_WANTED;
            }
            if (channel != null && channel.isClosed) {
                return CLOSED;
            }
            if (channel != null && passOn(channel, tag, operands, at + 1)) {
                operands.drop(2);
            } else {
                world.await(strand, SENDS, 0);
            }
            return FINE;
        }

        int receive(Strand strand, Row operands) {
            int tag = operands.tag(operands.size - 1);
            Thing channel = heap.thingOf(tag, CHANNEL);
            if (channel == null && tag != NIL) {
                return NOT_AS_WANTED;
            }
            if (channel != null && hasForReceiver(channel, tag)) {
                operands.drop(1);
                operands.push(pull(channel, tag, operands), NUMBER);
            } else {
                world.await(strand, RECEIVES, 0);
            }
            return FINE;
        }

        int close(Row operands) {
            int tag = operands.tag(operands.size - 1);
            Thing channel = heap.thingOf(tag, CHANNEL);
            if (channel == null) {
                return tag == NIL ? CLOSED : NOT_AS_WANTED;
            }
            if (channel.isClosed) {
                return CLOSED;
            }
            channel.isClosed = true;
            operands.drop(1);
            for (int done = 0; done < MOST_STRANDS; done++) {
                Strand waiter = longestWaiting(tag, true, true);
                if (waiter == null) {
                    return FINE;
                }
                if (endsWaitByPanic(waiter, tag)) {
                    waiter.finish(PANICS, CLOSED, NUMBER);
                }
                if (waiter.isThere()) {
                    world.lineUp(waiter);
                }
            }
            return FINE;
        }

        /** A channel was closed for which a strand waits: it has what a receiver gets, or true if it sends. */
        private boolean endsWaitByPanic(Strand waiter, int tag) {
            Frame frame = waiter.top();
            if (frame == null) {
                return false;
            }
            Row operands = frame.operands;
            int which = caseOf(waiter, tag, true, true);
            boolean selects = waiter.status == SELECTS;
            boolean sends = selects
                ? operands.number(caseAt(waiter, operands, which) + 1) != 0
                : waiter.status == SENDS;
            dropWaited(waiter, operands);
            waiter.status = READY;
            if (!sends) {
                operands.push(0, NUMBER);
                operands.push(selects ? which : 0, NUMBER);
            }
            return sends;
        }

        int select(Strand strand, Row operands, int a) {
            int cases = a & CASE_MASK;
            int base = operands.size - CASE_OPERANDS * cases;
            if (!areCases(operands, base, cases)) {
                return NOT_AS_WANTED;
            }
            for (int which = 0; which < cases; which++) {
                int at = base + CASE_OPERANDS * which;
                int tag = operands.tag(at);
                Thing channel = heap.thingOf(tag, CHANNEL);
                if (channel == null) {
                    continue;
                }
                boolean sending = operands.number(at + 1) != 0;
                if (sending && channel.isClosed) {
                    return CLOSED;
                }
                if (sending && passOn(channel, tag, operands, at + 2)) {
                    operands.drop(CASE_OPERANDS * cases);
                    operands.push(0, NUMBER);
                    operands.push(which, NUMBER);
                    return FINE;
                }
                if (!sending && hasForReceiver(channel, tag)) {
                    operands.drop(CASE_OPERANDS * cases);
                    pull(channel, tag, operands);
                    operands.push(which, NUMBER);
                    return FINE;
                }
            }
            if (a >= WITHOUT_WAITING) {
                operands.drop(CASE_OPERANDS * cases);
                operands.push(0, NUMBER);
                operands.push(-1, NUMBER);
            } else {
                world.await(strand, SELECTS, cases);
            }
            return FINE;
        }

        private boolean areCases(Row operands, int base, int cases) {
            for (int which = 0; which < cases; which++) {
                int at = base + CASE_OPERANDS * which;
                int tag = operands.tag(at);
                if (tag != NIL && heap.thingOf(tag, CHANNEL) == null || !operands.isNumber(at + 1)) {
                    return false;
                }
            }
            return true;
        }

        /** Gives a value to who waits for it, or to the channel; false if its sender has to wait. */
        private boolean passOn(Thing channel, int tag, Row from, int at) {
            Strand receiver = longestWaiting(tag, false, true);
            Frame frame = receiver == null ? null : receiver.top();
            if (frame != null) {
                int flag = receiver.status == SELECTS ? caseOf(receiver, tag, false, true) : 1;
                dropWaited(receiver, frame.operands);
                frame.operands.push(from.number(at), from.tag(at));
                frame.operands.push(flag, NUMBER);
                world.lineUp(receiver);
                return true;
            }
            if (channel.values.size < channel.room) {
                channel.values.push(from.number(at), from.tag(at));
                return true;
            }
            return false;
        }

        private boolean hasForReceiver(Thing channel, int tag) {
            return channel.values.size > 0 || channel.isClosed || longestWaiting(tag, true, false) != null;
        }

        /** Pushes what a receiver gets: 1, or 0 if that is only the 0 of a closed channel. */
        private int pull(Thing channel, int tag, Row into) {
            Row held = channel.values;
            Strand sender = longestWaiting(tag, true, false);
            if (held.size > 0) {
                into.push(held.number(0), held.tag(0));
                heap.loses(held, 0);
                held.dropFirst();
                if (sender != null) {
                    unload(sender, tag, held);
                }
                return 1;
            }
            if (sender != null) {
                unload(sender, tag, into);
                return 1;
            }
            into.push(0, NUMBER);
            return 0;
        }

        /** Moves what a waiting strand sends to a row; that strand goes on. */
        private void unload(Strand sender, int tag, Row into) {
            Frame frame = sender.top();
            if (frame == null) {
                return;
            }
            Row operands = frame.operands;
            int which = caseOf(sender, tag, true, false);
            boolean selected = sender.status == SELECTS;
            int at = selected ? caseAt(sender, operands, which) + 2 : operands.size - 1;
            into.push(operands.number(at), operands.tag(at));
            dropWaited(sender, operands);
            if (selected) {
                operands.push(0, NUMBER);
                operands.push(which, NUMBER);
            }
            world.lineUp(sender);
        }

        private Strand longestWaiting(int tag, boolean senders, boolean receivers) {
            Strand longest = null;
            for (int s = 0; s < MOST_STRANDS; s++) {
                Strand strand = world.strands[s];
                boolean earlier = longest == null || strand.waitsSince < longest.waitsSince;
                if (earlier && caseOf(strand, tag, senders, receivers) != NONE) {
                    longest = strand;
                }
            }
            return longest;
        }

        /** The first case, of a strand that waits, that sends to or receives from the channel; else NONE. */
        private int caseOf(Strand strand, int tag, boolean sending, boolean receiving) {
            Frame frame = strand.top();
            if (frame == null) {
                return NONE;
            }
            Row operands = frame.operands;
            switch (strand.status) {
                case SENDS:
                    return sending && operands.tag(operands.size - 2) == tag ? 0 : NONE;
                case RECEIVES:
                    return receiving && operands.tag(operands.size - 1) == tag ? 0 : NONE;
                case SELECTS:
                    for (int which = 0; which < strand.cases; which++) {
                        int at = caseAt(strand, operands, which);
                        boolean wanted = operands.number(at + 1) != 0 ? sending : receiving;
                        if (wanted && operands.tag(at) == tag) {
                            return which;
                        }
                    }
                    return NONE;
                default:
                    return NONE;
            }
        }

        private int caseAt(Strand strand, Row operands, int which) {
            return operands.size - CASE_OPERANDS * (strand.cases - which);
        }

        private void dropWaited(Strand strand, Row operands) {
            if (strand.status == SELECTS) {
                operands.drop(CASE_OPERANDS * strand.cases);
            } else {
                operands.drop(strand.status == SENDS ? 2 : 1);
            }
        }
    }

    /** Steps: one instruction of the strand that runs, whose turn it is then, and some collecting. */
    private static final class Machine {
        private final Program program;
        private final World world;
        private final Heap heap;
        private final Channels channels;
        private final long[] written = new long[MOST_WRITTEN];
        private int firstUntaken;
        private int untaken;
        private int phase;
        private int steps;
        private int quantum = 10;
        private int pace = 5;

        Machine(Program ofProgram, World ofWorld, Heap ofHeap) {
            program = ofProgram;
            world = ofWorld;
            heap = ofHeap;
            channels = new Channels(ofWorld, ofHeap);
        }

        void reset() {
            world.reset();
            heap.reset();
            firstUntaken = 0;
            untaken = 0;
            steps = 0;
            phase = NOT_BEGUN;
        }

        void launch(int f) {
            world.spawn(f, world.globals, 0);
            world.runNext();
            phase = GOING;
        }

        long takeWritten() {
            if (untaken == 0) {
                return 0;
            }
            long next = written[firstUntaken];
            firstUntaken = (firstUntaken + 1) % MOST_WRITTEN;
            untaken--;
            return next;
        }

        private void write(long number) {
            if (untaken < MOST_WRITTEN) {
                written[(firstUntaken + untaken) % MOST_WRITTEN] = number;
                untaken++;
            }
        }

        void step() {
            Strand strand = world.runner();
            Frame frame = strand == null ? null : strand.top();
            int next = frame == null ? NONE : program.nextOf(frame);
            if (next == NONE) {
                phase = ALL_WAIT;
                return;
            }
            int op = program.ops[next];
            int a = program.args[next];
            frame.place++;
            steps++;
            world.stepsInTurn++;
            int takes = program.takes(op, a);
            int left = frame.operands.size - takes;
            boolean fits = left >= 0 && left + PUSHES[op] <= MOST_OPERANDS;
            int panic = fits ? perform(op, a, strand, frame) : TOO_MANY;
            if (panic != FINE) {
                frame.operands.drop(takes);
                strand.finish(PANICS, panic, NUMBER);
            }
            passTurn(strand, op == YIELD);
            heap.work(pace);
        }

        private void passTurn(Strand strand, boolean yields) {
            Strand main = world.strands[0];
            if (!main.isThere()) {
                phase = main.status == PANICKED ? MAIN_PANICKED : MAIN_RETURNED;
                world.running = NONE;
                return;
            }
            boolean turnIsOver = yields || world.stepsInTurn >= quantum;
            if (strand.status == READY && !turnIsOver) {
                return;
            }
            if (strand.status == READY) {
                world.lineUp(strand);
            }
            world.runNext();
            if (world.running == NONE) {
                phase = ALL_WAIT;
            }
        }

        /** FINE; or the number of the panic, and then nothing was changed yet. */
        private int perform(int op, int a, Strand strand, Frame frame) {
            Row operands = frame.operands;
            int top = operands.size - 1;
            switch (op) {
                case CALL:
                case SPAWN:
                    return enterFunction(op, a, strand, operands);
                case RETURN:
                    long returned = operands.number(top);
                    int tag = operands.tag(top);
                    operands.drop(1);
                    strand.finish(RETURNS, returned, tag);
                    return FINE;
                case NEW_TUPLE:
                case NEW_CHANNEL:
                    int type = op == NEW_TUPLE ? TUPLE : CHANNEL;
                    if (!heap.hasCellsFor(type, a)) {
                        heap.collectWhole();
                    }
                    if (!heap.hasCellsFor(type, a)) {
                        return NO_CELLS;
                    }
                    operands.push(0, heap.make(type, a));
                    return FINE;
                case SEND:
                    return channels.send(strand, operands);
                case RECEIVE:
                    return channels.receive(strand, operands);
                case CLOSE:
                    return channels.close(operands);
                case SELECT:
                    return channels.select(strand, operands, a);
                case WRITE:
                case PANIC:
                    return useNumber(op, strand, operands);
                case DEFER:
                    return frame.defer(a) ? FINE : TOO_MANY;
                case RECOVER:
                    strand.recover();
                    return FINE;
                case JUMP:
                case JUMP_ZERO:
                    return jump(op, a, frame);
                case YIELD:
                    return FINE;
                default:
                    if (op <= SWAP) {
                        return move(op, a, frame);
                    }
                    return op <= IS_ZERO ? reckon(op, operands) : useObject(op, a, operands);
            }
        }

        private int enterFunction(int op, int f, Strand strand, Row operands) {
            int params = program.paramsOf(f);
            int firstArgument = operands.size - params;
            boolean entered = op == CALL
                ? strand.enter(f, operands, firstArgument)
                : world.spawn(f, operands, firstArgument);
            if (!entered) {
                return TOO_MANY;
            }
            operands.drop(params);
            return FINE;
        }

        private int useNumber(int op, Strand strand, Row operands) {
            int top = operands.size - 1;
            if (!operands.isNumber(top)) {
                return NOT_AS_WANTED;
            }
            long number = operands.number(top);
            operands.drop(1);
            if (op == WRITE) {
                write(number);
            } else {
                strand.finish(PANICS, number, NUMBER);
            }
            return FINE;
        }

        private int jump(int op, int a, Frame frame) {
            Row operands = frame.operands;
            if (op == JUMP || operands.isZeroOrNil(operands.size - 1)) {
                frame.place = a;
            }
            operands.drop(TAKES[op]);
            return FINE;
        }

        private int move(int op, int a, Frame frame) {
            Row operands = frame.operands;
            Row variables = op == GET_GLOBAL || op == SET_GLOBAL ? world.globals : frame.locals;
            int top = operands.size - 1;
            long number = operands.number(top);
            int tag = operands.tag(top);
            switch (op) {
                case PUSH:
                    operands.push(a, NUMBER);
                    break;
                case PUSH_NIL:
                    operands.push(0, NIL);
                    break;
                case GET_LOCAL:
                case GET_GLOBAL:
                    operands.push(variables.number(a), variables.tag(a));
                    break;
                case SET_LOCAL:
                case SET_GLOBAL:
                    variables.put(a, number, tag);
                    operands.drop(1);
                    break;
                case DOUBLE:
                    operands.push(number, tag);
                    break;
                case POP:
                    operands.drop(1);
                    break;
                case SWAP:
                    operands.put(top, operands.number(top - 1), operands.tag(top - 1));
                    operands.put(top - 1, number, tag);
                    break;
                default:
                    break;
            }
            return FINE;
        }

        private int reckon(int op, Row operands) {
            int top = operands.size - 1;
            if (op == IS_ZERO) {
                operands.put(top, operands.isZeroOrNil(top) ? 1 : 0, NUMBER);
                return FINE;
            }
            long right = operands.number(top);
            long left = operands.number(top - 1);
            boolean numbers = operands.isNumber(top) && operands.isNumber(top - 1);
            if (op != SAME && !numbers) {
                return NOT_AS_WANTED;
            }
            if (op == DIVIDE && right == 0) {
                return BY_ZERO;
            }
            boolean same = left == right && operands.tag(top - 1) == operands.tag(top);
            operands.drop(2);
            operands.push(op == SAME ? (same ? 1 : 0) : resultOf(op, left, right), NUMBER);
            return FINE;
        }

        private long resultOf(int op, long left, long right) {
            switch (op) {
                case ADD:
                    return left + right;
                case SUBTRACT:
                    return left - right;
                case MULTIPLY:
                    return left * right;
                case DIVIDE:
                    return right == 0 ? 0 : left / right;
                default:
                    return left < right ? 1 : 0;
            }
        }

        private int useObject(int op, int a, Row operands) {
            int at = operands.size - TAKES[op];
            Thing tuple = heap.thingOf(operands.tag(at), TUPLE);
            if (op == SIZE) {
                Thing thing = tuple == null ? heap.thingOf(operands.tag(at), CHANNEL) : tuple;
                if (thing == null) {
                    return NOT_AS_WANTED;
                }
                operands.put(at, thing.values.size, NUMBER);
                return FINE;
            }
            boolean indexed = op == GET_AT || op == SET_AT;
            long index = indexed ? operands.number(at + 1) : a;
            if (tuple == null || indexed && !operands.isNumber(at + 1) || index < 0 || index >= tuple.values.size) {
                return NOT_AS_WANTED;
            }
            int i = (int) index;
            if (op == GET_VALUE || op == GET_AT) {
                operands.drop(TAKES[op]);
                operands.push(tuple.values.number(i), tuple.values.tag(i));
            } else {
                int top = operands.size - 1;
                heap.loses(tuple.values, i);
                tuple.values.put(i, operands.number(top), operands.tag(top));
                operands.drop(TAKES[op]);
            }
            return FINE;
        }
    }
}
