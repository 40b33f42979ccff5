import java.util.NoSuchElementException;

/**
 * A simulator of programmable pin engines: up to four engines execute one shared program, cycle by
 * cycle. The numbered promises of DOC.md say what every call answers.
 */
public final class PinEngines {
    public static final int NONE = -1;
    public static final int HIDDEN = -1000000000;

    private static final int ENGINES = 4;
    private static final int PINS = 16;
    private static final int PIN_BITS = 0xFFFF;
    private static final int FLAGS = 8;
    private static final int MEMORY_WORDS = 16;
    private static final int WORD_BITS = 32;
    private static final int REGISTERS = 4;
    private static final int MAX_INSTRUCTIONS = 32;
    private static final int JOINED_ROOM = 8;
    private static final int PLAIN_ROOM = 4;
    private static final int TRAIL_CYCLES = 64;
    private static final int MAX_SCHEDULED = 32;
    private static final int MAX_CLOCK = 1000000;
    private static final int MAX_CYCLES = 1000;
    private static final int MAX_LIMIT = 2000;
    private static final int MAX_RATIO = 1000000;
    private static final int MAX_TEXT = 1000;
    private static final int FED_BYTES = 20;
    private static final int MAX_QUERY = 200;
    private static final int MAX_UNDO = 10;
    private static final int MAX_OPEN = 6;

    /** One cycle in the units of the clock settings; it is the shortest period too. */
    private static final int CYCLE_UNITS = 256;
    private static final int MAX_PERIOD = 65535;

    /** Negative answers of the operations, and the number from which load's errors count down. */
    private static final int NO_ROOM = -2;
    private static final int CLOCK_ENDS = -4;
    private static final int LOAD_ERRORS = -10;

    /** Error codes of a text. */
    private static final int WRONG_TOKEN = 1;
    private static final int OUT_OF_RANGE = 2;
    private static final int TOO_MANY = 3;
    private static final int DEFINED_ALREADY = 4;
    private static final int NO_LABEL = 5;

    /** Stall reasons. */
    private static final int COMPLETED = 0;
    private static final int STALL_WAIT = 1;
    private static final int STALL_INPUT = 2;
    private static final int STALL_OUTPUT = 3;
    private static final int STALL_PORT = 4;
    private static final int STALL_SIGNAL = 5;

    /** What an engine counts. */
    private static final int COUNTS = 6;
    private static final int DONE = 0;
    private static final int NOT_COMPLETED = 1;
    private static final int DELAYED = 2;
    private static final int PUSHED = 3;
    private static final int PULLED = 4;
    private static final int LOST = 5;

    /** Roles of words: the places in the grammars at which a word may stand, a bit for each. */
    private static final int INSTRUCTION = 1;
    private static final int SETTING = 1 << 1;
    private static final int CONDITION = 1 << 2;
    private static final int WAITED = 1 << 3;
    private static final int IN_SOURCE = 1 << 4;
    private static final int OUT_TARGET = 1 << 5;
    private static final int MOV_TARGET = 1 << 6;
    private static final int MOV_CHANGE = 1 << 7;
    private static final int MOV_SOURCE = 1 << 8;
    private static final int SET_TARGET = 1 << 9;
    private static final int LOAD_TARGET = 1 << 10;
    private static final int STORE_SOURCE = 1 << 11;
    private static final int PLACE = 1 << 12;
    private static final int QUERY_MODE = 1 << 13;
    private static final int PROPERTY = 1 << 14;
    private static final int COMPARISON = 1 << 15;

    private final byte[] buffer = new byte[MAX_TEXT];
    private int buffered = 0;
    private int errorPosition = NONE;
    private final Tokens tokens = new Tokens(buffer);

    private Program program = new Program();
    /** A text is read into this program, so that a text with an error leaves the other one alone. */
    private Program spareProgram = new Program();
    private final ProgramReader programReader = new ProgramReader(tokens, spareProgram);

    private final Machine machine = new Machine();
    private final Machine copy = new Machine();
    private final Simulator simulator = new Simulator(program, machine);
    private final QueryReader queryReader = new QueryReader(tokens, machine);

    private final Machine snapshot = new Machine();
    private boolean hasSnapshot = false;
    /** The machines before the most recent operations, in a ring that ends before pastEnd. */
    private final Machine[] past = new Machine[MAX_UNDO];
    private int pastEnd = 0;
    private int pastCount = 0;

    private final StringBuilder formatted = new StringBuilder();

    public PinEngines() {
        for (int i = 0; i < MAX_UNDO; i++) {
            past[i] = new Machine();
        }
        machine.begin(program);
    }

    public int feed(int a, int b, int c, int d, int e) {
        if (buffered + FED_BYTES > MAX_TEXT) {
            return NONE;
        }
        appendBytes(a);
        appendBytes(b);
        appendBytes(c);
        appendBytes(d);
        appendBytes(e);
        return buffered;
    }

    public int load(int length) throws IllegalArgumentException {
        if (length < 0 || length > buffered) {
            throw new IllegalArgumentException();
        }
        buffered = 0;
        tokens.scan(length);
        programReader.readProgram(spareProgram);
        errorPosition = tokens.errorAt;
        if (tokens.code != 0) {
            return LOAD_ERRORS - tokens.code;
        }
        Program old = program;
        program = spareProgram;
        spareProgram = old;
        simulator.program = program;
        machine.begin(program);
        pastCount = 0;
        hasSnapshot = false;
        return program.count;
    }

    public int errorPosition() {
        return errorPosition;
    }

    public int instructionCount() {
        return program.count;
    }

    public int engines() {
        return program.engineMask();
    }

    public int clock() {
        return machine.clock;
    }

    public int level(int pin) throws NoSuchElementException {
        checkPin(pin);
        return machine.levels() >> pin & 1;
    }

    public int latch(int pin) throws NoSuchElementException {
        checkPin(pin);
        return machine.latches >> pin & 1;
    }

    public boolean isOutput(int pin) throws NoSuchElementException {
        checkPin(pin);
        return (machine.outputs >> pin & 1) == 1;
    }

    public int flag(int flag) throws NoSuchElementException {
        if (flag < 0 || flag >= FLAGS) {
            throw new NoSuchElementException();
        }
        return machine.flags >> flag & 1;
    }

    public int memory(int address) throws NoSuchElementException {
        checkMemory(address);
        return machine.memory[address];
    }

    public int portOwner() {
        return machine.portOwner;
    }

    public int pc(int engine) throws NoSuchElementException {
        return existingEngine(engine).pc;
    }

    public int register(int engine, int which) throws NoSuchElementException {
        Engine found = existingEngine(engine);
        if (which < 0 || which >= REGISTERS) {
            throw new NoSuchElementException();
        }
        switch (which) {
            case 0:
                return found.x;
            case 1:
                return found.y;
            case 2:
                return found.isr;
            default:
                return found.osr;
        }
    }

    public int fill(int engine) throws NoSuchElementException {
        return existingEngine(engine).fill;
    }

    public int spent(int engine) throws NoSuchElementException {
        return existingEngine(engine).spent;
    }

    public int delayLeft(int engine) throws NoSuchElementException {
        return existingEngine(engine).delay;
    }

    public int stall(int engine) throws NoSuchElementException {
        return existingEngine(engine).stall;
    }

    public boolean isEnabled(int engine) throws NoSuchElementException {
        return existingEngine(engine).enabled;
    }

    public int queueSize(int engine, boolean output) throws NoSuchElementException {
        return existingQueue(engine, output).size;
    }

    public long queued(int engine, boolean output, int index) throws NoSuchElementException {
        Queue queue = existingQueue(engine, output);
        if (index < 0) {
            throw new NoSuchElementException();
        }
        return index < queue.size ? unsigned(queue.wordAt(index)) : NONE;
    }

    public int count(int engine, int what) throws NoSuchElementException {
        Engine found = existingEngine(engine);
        if (what < 0 || what >= COUNTS) {
            throw new NoSuchElementException();
        }
        return found.counts[what];
    }

    public int levelAt(int pin, int age) throws NoSuchElementException {
        checkPin(pin);
        if (age < 0 || age >= TRAIL_CYCLES) {
            throw new NoSuchElementException();
        }
        int cycle = machine.clock - 1 - age;
        return cycle < 0 ? NONE : machine.levelsAfter(cycle) >> pin & 1;
    }

    public int edges(int pin) throws NoSuchElementException {
        checkPin(pin);
        return machine.edges[pin];
    }

    public int highTime(int pin) throws NoSuchElementException {
        checkPin(pin);
        return machine.highCycles(pin);
    }

    public int put(int engine, int word) throws NoSuchElementException {
        Queue queue = existingQueue(engine, false);
        if (queue.isFull()) {
            return NO_ROOM;
        }
        remember();
        queue.append(word);
        return queue.size;
    }

    public long take(int engine) throws NoSuchElementException {
        Queue queue = existingQueue(engine, true);
        if (queue.size == 0) {
            return NO_ROOM;
        }
        remember();
        return unsigned(queue.removeFirst());
    }

    public boolean enable(int engine, boolean on) throws NoSuchElementException {
        Engine found = existingEngine(engine);
        remember();
        boolean before = found.enabled;
        found.enabled = on;
        return before;
    }

    public int restart(int engine) throws NoSuchElementException {
        Engine found = existingEngine(engine);
        remember();
        int before = found.pc;
        found.reset(program.setups[engine]);
        return before;
    }

    public int drive(int pin, int level) throws NoSuchElementException, IllegalArgumentException {
        checkPin(pin);
        checkLevel(level);
        remember();
        machine.driveOutside(pin, level);
        return machine.levels() >> pin & 1;
    }

    public int schedule(int cycle, int pin, int level)
            throws NoSuchElementException, IllegalArgumentException {
        checkPin(pin);
        checkLevel(level);
        if (cycle < machine.clock || cycle > MAX_CLOCK) {
            throw new IllegalArgumentException();
        }
        if (machine.scheduledCount >= MAX_SCHEDULED) {
            return NO_ROOM;
        }
        remember();
        machine.addScheduled(cycle, pin, level);
        return machine.scheduledCount;
    }

    public int poke(int address, int word) throws NoSuchElementException {
        checkMemory(address);
        remember();
        int before = machine.memory[address];
        machine.memory[address] = word;
        return before;
    }

    public int run(int cycles) throws IllegalArgumentException {
        if (cycles < 0 || cycles > MAX_CYCLES) {
            throw new IllegalArgumentException();
        }
        if (machine.clock + cycles > MAX_CLOCK) {
            return CLOCK_ENDS;
        }
        remember();
        int done = 0;
        for (int i = 0; i < cycles; i++) {
            done += simulator.simulateCycle(machine);
        }
        return done;
    }

    public int cyclesUntil(int pin, int level, int limit)
            throws NoSuchElementException, IllegalArgumentException {
        checkPin(pin);
        checkLevel(level);
        checkLimit(limit);
        copy.copyFrom(machine);
        for (int cycles = 0; cycles <= limit; cycles++) {
            if ((copy.levels() >> pin & 1) == level) {
                return cycles;
            }
            simulator.simulateCycle(copy);
        }
        return NONE;
    }

    public int cyclesTo(int engine, int address, int limit)
            throws NoSuchElementException, IllegalArgumentException {
        existingEngine(engine);
        checkAddress(address);
        checkLimit(limit);
        copy.copyFrom(machine);
        for (int cycles = 0; cycles <= limit; cycles++) {
            if (copy.engines[engine].pc == address) {
                return cycles;
            }
            simulator.simulateCycle(copy);
        }
        return NONE;
    }

    public int period(int pin, int limit) throws NoSuchElementException, IllegalArgumentException {
        checkPin(pin);
        checkLimit(limit);
        copy.copyFrom(machine);
        int before = copy.levels() >> pin & 1;
        int firstRise = NONE;
        for (int cycle = 0; cycle < limit; cycle++) {
            simulator.simulateCycle(copy);
            int level = copy.levels() >> pin & 1;
            if (level == 1 && before == 0) {
                if (firstRise != NONE) {
                    return cycle - firstRise;
                }
                firstRise = cycle;
            }
            before = level;
        }
        return NONE;
    }

    public int stuck(int limit) throws IllegalArgumentException {
        checkLimit(limit);
        copy.copyFrom(machine);
        int idle = idleEngines();
        for (int cycle = 0; cycle < limit && idle != 0; cycle++) {
            simulator.simulateCycle(copy);
            idle = idleEngines();
        }
        return idle;
    }

    public int divider(int cycles, int ticks) throws IllegalArgumentException {
        if (cycles < 1 || cycles > MAX_RATIO || ticks < 1 || ticks > MAX_RATIO) {
            throw new IllegalArgumentException();
        }
        int units = CYCLE_UNITS * cycles;
        int nearest = units / ticks;
        if (units % ticks * 2 > ticks) {
            nearest++;
        }
        return Math.max(CYCLE_UNITS, Math.min(nearest, MAX_PERIOD));
    }

    public int format(int address) throws NoSuchElementException {
        checkAddress(address);
        formatted.setLength(0);
        program.instructionAt(address).appendTo(formatted);
        return formatted.length();
    }

    public int formattedByte(int index) {
        return index < 0 || index >= formatted.length() ? NONE : formatted.charAt(index);
    }

    public int undoCount() {
        return pastCount;
    }

    public int undo() {
        if (pastCount == 0) {
            return NONE;
        }
        pastEnd = (pastEnd + MAX_UNDO - 1) % MAX_UNDO;
        pastCount--;
        machine.copyFrom(past[pastEnd]);
        return pastCount;
    }

    public void saveSnapshot() {
        snapshot.copyFrom(machine);
        hasSnapshot = true;
    }

    public boolean restoreSnapshot() {
        if (!hasSnapshot) {
            return false;
        }
        machine.copyFrom(snapshot);
        pastCount = 0;
        return true;
    }

    public int query(int length) throws IllegalArgumentException {
        if (length < 0 || length > MAX_QUERY || length > buffered) {
            throw new IllegalArgumentException();
        }
        buffered = 0;
        tokens.scan(length);
        Symbol mode = tokens.takeRole(QUERY_MODE);
        int found = queryReader.readTest(0) & program.engineMask();
        tokens.expectEnd();
        errorPosition = tokens.errorAt;
        if (tokens.code != 0) {
            return HIDDEN - tokens.code;
        }
        return mode == Symbol.MANY ? Integer.bitCount(found) : firstEngine(found);
    }

    private void appendBytes(int word) {
        for (int shift = WORD_BITS - 8; shift >= 0; shift -= 8) {
            if (buffered < MAX_TEXT) {
                buffer[buffered] = (byte) (word >> shift);
                buffered++;
            }
        }
    }

    /** Every operation calls this when it is sure to succeed, before it changes anything. */
    private void remember() {
        past[pastEnd].copyFrom(machine);
        pastEnd = (pastEnd + 1) % MAX_UNDO;
        pastCount = Math.min(pastCount + 1, MAX_UNDO);
    }

    /** The enabled engines that have done as much on the copy as on the machine. */
    private int idleEngines() {
        int idle = 0;
        for (int e = 0; e < ENGINES; e++) {
            Engine engine = machine.engines[e];
            boolean asked = program.hasEngine(e) && engine.enabled;
            if (asked && copy.engines[e].counts[DONE] == engine.counts[DONE]) {
                idle |= 1 << e;
            }
        }
        return idle;
    }

    private static int firstEngine(int mask) {
        for (int e = 0; e < ENGINES; e++) {
            if ((mask >> e & 1) == 1) {
                return e;
            }
        }
        return NONE;
    }

    private Engine existingEngine(int engine) {
        if (!program.hasEngine(engine)) {
            throw new NoSuchElementException();
        }
        return machine.engines[engine];
    }

    private Queue existingQueue(int engine, boolean output) {
        Engine found = existingEngine(engine);
        return output ? found.output : found.input;
    }

    private void checkAddress(int address) {
        if (address < 0 || address >= program.count) {
            throw new NoSuchElementException();
        }
    }

    private static void checkPin(int pin) {
        if (pin < 0 || pin >= PINS) {
            throw new NoSuchElementException();
        }
    }

    private static void checkMemory(int address) {
        if (address < 0 || address >= MEMORY_WORDS) {
            throw new NoSuchElementException();
        }
    }

    private static void checkLevel(int level) {
        if (level < 0 || level > 1) {
            throw new IllegalArgumentException();
        }
    }

    private static void checkLimit(int limit) {
        if (limit < 0 || limit > MAX_LIMIT) {
            throw new IllegalArgumentException();
        }
    }

    private static long unsigned(int word) {
        return word & 0xFFFFFFFFL;
    }

    /** The 16 pin bits, each moved up by a number of pins (0 to 16), the last ones round to pin 0. */
    private static int rotatedPins(int bits, int by) {
        int pins = bits & PIN_BITS;
        return (pins << by | pins >>> (PINS - by)) & PIN_BITS;
    }

    /** What a token can be: a word or a sign that the grammars quote, with its roles, or another one. */
    private enum Symbol {
        /** Stands for a part that an instruction does not have. */
        NOTHING("", 0),
        END("", 0),
        NAME("", 0),
        NUMBER("", 0),
        /** A sign that no grammar quotes. */
        STRANGE("", 0),
        COLON(":", 0),
        SEMICOLON(";", 0),
        OPEN("(", 0),
        CLOSE(")", 0),
        LESS("<", COMPARISON),
        EQUAL("=", COMPARISON),
        GREATER(">", COMPARISON),
        ENGINE("engine", PROPERTY),
        START("start", 0),
        LEVEL("level", 0),
        SIDE("side", 0),
        DELAY("delay", PROPERTY),
        CLOCK("clock", SETTING),
        WRAP("wrap", SETTING),
        OUTPINS("outpins", SETTING),
        SETPINS("setpins", SETTING),
        SIDEPINS("sidepins", SETTING),
        INPINS("inpins", SETTING),
        JUMPPIN("jumppin", SETTING),
        INLEFT("inleft", SETTING),
        OUTLEFT("outleft", SETTING),
        AUTOPUSH("autopush", SETTING),
        AUTOPULL("autopull", SETTING),
        JOININ("joinin", SETTING),
        JOINOUT("joinout", SETTING),
        JMP("jmp", INSTRUCTION),
        WAIT("wait", INSTRUCTION),
        IN("in", INSTRUCTION),
        OUT("out", INSTRUCTION),
        PUSH("push", INSTRUCTION),
        PULL("pull", INSTRUCTION),
        MOV("mov", INSTRUCTION),
        RAISE("raise", INSTRUCTION),
        CLEAR("clear", INSTRUCTION),
        SIGNAL("signal", INSTRUCTION),
        SET("set", INSTRUCTION),
        LOAD("load", INSTRUCTION),
        STORE("store", INSTRUCTION),
        XZERO("xzero", CONDITION),
        YZERO("yzero", CONDITION),
        XDEC("xdec", CONDITION),
        YDEC("ydec", CONDITION),
        DIFFER("differ", CONDITION),
        PIN("pin", CONDITION | WAITED),
        MORE("more", CONDITION),
        FLAG("flag", WAITED),
        PINS("pins", IN_SOURCE | OUT_TARGET | MOV_TARGET | MOV_SOURCE | SET_TARGET),
        X("x", IN_SOURCE | OUT_TARGET | MOV_TARGET | MOV_SOURCE | SET_TARGET | LOAD_TARGET
                | STORE_SOURCE | PLACE | PROPERTY),
        Y("y", IN_SOURCE | OUT_TARGET | MOV_TARGET | MOV_SOURCE | SET_TARGET | LOAD_TARGET
                | STORE_SOURCE | PLACE | PROPERTY),
        NULL("null", IN_SOURCE | OUT_TARGET | MOV_SOURCE),
        ISR("isr", IN_SOURCE | OUT_TARGET | MOV_TARGET | MOV_SOURCE | STORE_SOURCE | PROPERTY),
        OSR("osr", IN_SOURCE | MOV_TARGET | MOV_SOURCE | LOAD_TARGET | PROPERTY),
        DIRS("dirs", OUT_TARGET | SET_TARGET),
        PC("pc", OUT_TARGET | MOV_TARGET | PROPERTY),
        STATUS("status", MOV_SOURCE),
        IFFULL("iffull", 0),
        IFEMPTY("ifempty", 0),
        NOBLOCK("noblock", 0),
        NOT("not", MOV_CHANGE),
        REVERSE("reverse", MOV_CHANGE),
        MANY("many", QUERY_MODE),
        FIRST("first", QUERY_MODE),
        OR("or", 0),
        AND("and", 0),
        FILL("fill", PROPERTY),
        SPENT("spent", PROPERTY),
        STALL("stall", PROPERTY),
        INPUT("input", PROPERTY),
        OUTPUT("output", PROPERTY);

        private static final Symbol[] ALL = values();

        final String text;
        final int roles;

        Symbol(String text, int roles) {
            this.text = text;
            this.roles = roles;
        }

        /** The symbol with these bytes; the other one if the grammars do not quote them. */
        static Symbol spelled(byte[] bytes, int start, int end, Symbol other) {
            for (int i = 0; i < ALL.length; i++) {
                if (ALL[i].isSpelled(bytes, start, end)) {
                    return ALL[i];
                }
            }
            return other;
        }

        private boolean isSpelled(byte[] bytes, int start, int end) {
            if (start < 0 || end > bytes.length || text.length() != end - start) {
                return false;
            }
            for (int i = 0; i < text.length(); i++) {
                if (text.charAt(i) != bytes[start + i]) {
                    return false;
                }
            }
            return true;
        }
    }

    /** The parts of an instruction, in the order of the grammar; NONE or NOTHING for a missing one. */
    private static final class Instruction {
        Symbol operation = Symbol.NOTHING;
        int awaited = NONE;
        Symbol first = Symbol.NOTHING;
        Symbol change = Symbol.NOTHING;
        Symbol second = Symbol.NOTHING;
        int number = NONE;
        int side = NONE;
        int delay = 0;

        void clearTo(Symbol newOperation) {
            operation = newOperation;
            awaited = NONE;
            first = Symbol.NOTHING;
            change = Symbol.NOTHING;
            second = Symbol.NOTHING;
            number = NONE;
            side = NONE;
            delay = 0;
        }

        boolean usesPort() {
            return operation == Symbol.LOAD || operation == Symbol.STORE;
        }

        void appendTo(StringBuilder text) {
            text.append(operation.text);
            appendNumber(text, awaited);
            appendWord(text, first);
            appendWord(text, change);
            appendWord(text, second);
            appendNumber(text, number);
            if (side != NONE) {
                appendWord(text, Symbol.SIDE);
                appendNumber(text, side);
            }
            if (delay != 0) {
                appendWord(text, Symbol.DELAY);
                appendNumber(text, delay);
            }
        }

        private static void appendWord(StringBuilder text, Symbol word) {
            if (word != Symbol.NOTHING) {
                text.append(' ');
                text.append(word.text);
            }
        }

        private static void appendNumber(StringBuilder text, int number) {
            if (number != NONE) {
                text.append(' ');
                text.append(number);
            }
        }
    }

    /** What the text settles for one engine. A group of pins is its base and the mask of its pins. */
    private static final class Setup {
        boolean defined;
        int start;
        int bottom;
        int top;
        int period;
        int outBase;
        int outPins;
        int setBase;
        int setPins;
        int sideBase;
        int sidePins;
        int inBase;
        int jumpPin;
        boolean inLeft;
        boolean outLeft;
        boolean autopush;
        boolean autopull;
        int pushLimit;
        int pullLimit;
        int inputRoom;

        Setup() {
            clear();
        }

        void clear() {
            defined = false;
            start = 0;
            bottom = 0;
            top = NONE;
            period = CYCLE_UNITS;
            outBase = 0;
            outPins = 0;
            setBase = 0;
            setPins = 0;
            sideBase = 0;
            sidePins = 0;
            inBase = 0;
            jumpPin = 0;
            inLeft = false;
            outLeft = false;
            autopush = false;
            autopull = false;
            pushLimit = WORD_BITS;
            pullLimit = WORD_BITS;
            inputRoom = PLAIN_ROOM;
        }

        int outputRoom() {
            return JOINED_ROOM - inputRoom;
        }
    }

    /** A program as its text gives it: instructions, engines and outside levels. */
    private static final class Program {
        int count = 0;
        int outside = 0;
        final Setup[] setups = new Setup[ENGINES];
        private final Instruction[] instructions = new Instruction[MAX_INSTRUCTIONS];
        private final Instruction nothing = new Instruction();

        Program() {
            for (int e = 0; e < ENGINES; e++) {
                setups[e] = new Setup();
            }
            for (int i = 0; i < MAX_INSTRUCTIONS; i++) {
                instructions[i] = new Instruction();
            }
        }

        void clear() {
            count = 0;
            outside = 0;
            for (int e = 0; e < ENGINES; e++) {
                setups[e].clear();
            }
        }

        boolean isFull() {
            return count >= MAX_INSTRUCTIONS;
        }

        Instruction add(Symbol operation) {
            if (isFull()) {
                return nothing;
            }
            Instruction added = instructions[count];
            added.clearTo(operation);
            count++;
            return added;
        }

        Instruction instructionAt(int address) {
            return address < 0 || address >= count ? nothing : instructions[address];
        }

        boolean hasEngine(int engine) {
            return engine >= 0 && engine < ENGINES && setups[engine].defined;
        }

        int engineMask() {
            int mask = 0;
            for (int e = 0; e < ENGINES; e++) {
                if (setups[e].defined) {
                    mask |= 1 << e;
                }
            }
            return mask;
        }

        int addressAfter(int address, Setup setup) {
            if (address == setup.top) {
                return setup.bottom;
            }
            return address + 1 < count ? address + 1 : 0;
        }

        int addressOf(int word) {
            return count == 0 ? 0 : (int) (unsigned(word) % count);
        }
    }

    /** A queue of words, in a ring of the largest room that a queue can have. */
    private static final class Queue {
        int size = 0;
        private int room = 0;
        private int head = 0;
        private final int[] words = new int[JOINED_ROOM];

        void clear(int newRoom) {
            size = 0;
            head = 0;
            room = Math.max(0, Math.min(newRoom, JOINED_ROOM));
        }

        void copyFrom(Queue other) {
            size = other.size;
            room = other.room;
            head = other.head;
            System.arraycopy(other.words, 0, words, 0, JOINED_ROOM);
        }

        boolean isFull() {
            return size >= room;
        }

        void append(int word) {
            if (!isFull()) {
                words[(head + size) % JOINED_ROOM] = word;
                size++;
            }
        }

        int removeFirst() {
            if (size == 0) {
                return 0;
            }
            int first = words[head];
            head = (head + 1) % JOINED_ROOM;
            size--;
            return first;
        }

        int wordAt(int index) {
            return index < 0 || index >= size ? 0 : words[(head + index) % JOINED_ROOM];
        }
    }

    /** The state of one engine. */
    private static final class Engine {
        int pc;
        int x;
        int y;
        int isr;
        int osr;
        int fill;
        int spent;
        int delay;
        int stall;
        int counter;
        boolean enabled;
        final Queue input = new Queue();
        final Queue output = new Queue();
        final int[] counts = new int[COUNTS];

        void begin(Setup setup) {
            reset(setup);
            enabled = true;
            for (int i = 0; i < COUNTS; i++) {
                counts[i] = 0;
            }
        }

        void reset(Setup setup) {
            pc = setup.start;
            x = 0;
            y = 0;
            isr = 0;
            osr = 0;
            fill = 0;
            spent = WORD_BITS;
            delay = 0;
            stall = COMPLETED;
            counter = setup.period - CYCLE_UNITS;
            input.clear(setup.inputRoom);
            output.clear(setup.outputRoom());
        }

        void copyFrom(Engine other) {
            pc = other.pc;
            x = other.x;
            y = other.y;
            isr = other.isr;
            osr = other.osr;
            fill = other.fill;
            spent = other.spent;
            delay = other.delay;
            stall = other.stall;
            counter = other.counter;
            enabled = other.enabled;
            input.copyFrom(other.input);
            output.copyFrom(other.output);
            System.arraycopy(other.counts, 0, counts, 0, COUNTS);
        }

        /** Lets the counter run for one cycle; true if the engine has a tick in it. */
        boolean countCycle(Setup setup) {
            if (!enabled) {
                return false;
            }
            counter += CYCLE_UNITS;
            if (counter < setup.period) {
                return false;
            }
            counter -= setup.period;
            return true;
        }

        void setIsr(int word, int newFill) {
            isr = word;
            fill = newFill;
        }

        void setOsr(int word) {
            osr = word;
            spent = 0;
        }

        void pushIsr() {
            output.append(isr);
            counts[PUSHED]++;
            setIsr(0, 0);
        }

        void pullOsr() {
            setOsr(input.removeFirst());
            counts[PULLED]++;
        }
    }

    /** All that operations change and undoing restores. Pins and flags are bits of a mask. */
    private static final class Machine {
        int clock;
        int latches;
        int outputs;
        private int outside;
        int flags;
        int portOwner;
        final int[] memory = new int[MEMORY_WORDS];
        final Engine[] engines = new Engine[ENGINES];
        int scheduledCount;
        /** In the order of scheduling; an entry is the cycle * 32 + the pin * 2 + the level. */
        private final int[] scheduled = new int[MAX_SCHEDULED];
        /** The levels at the end of the most recent cycle; before the first one, those at first. */
        private int lastLevels;
        /** The levels at the ends of the most recent cycles, cycle c at c % TRAIL_CYCLES. */
        private final int[] trail = new int[TRAIL_CYCLES];
        final int[] edges = new int[PINS];
        /** For each pin the cycles at which it fell less those at which it rose: see highCycles. */
        private final int[] fallsLessRises = new int[PINS];

        Machine() {
            for (int e = 0; e < ENGINES; e++) {
                engines[e] = new Engine();
            }
        }

        void begin(Program program) {
            clock = 0;
            latches = 0;
            outputs = 0;
            outside = program.outside;
            flags = 0;
            portOwner = NONE;
            for (int i = 0; i < MEMORY_WORDS; i++) {
                memory[i] = 0;
            }
            for (int e = 0; e < ENGINES; e++) {
                engines[e].begin(program.setups[e]);
            }
            scheduledCount = 0;
            lastLevels = levels();
            for (int pin = 0; pin < PINS; pin++) {
                edges[pin] = 0;
                fallsLessRises[pin] = 0;
            }
        }

        void copyFrom(Machine other) {
            clock = other.clock;
            latches = other.latches;
            outputs = other.outputs;
            outside = other.outside;
            flags = other.flags;
            portOwner = other.portOwner;
            System.arraycopy(other.memory, 0, memory, 0, MEMORY_WORDS);
            for (int e = 0; e < ENGINES; e++) {
                engines[e].copyFrom(other.engines[e]);
            }
            scheduledCount = other.scheduledCount;
            System.arraycopy(other.scheduled, 0, scheduled, 0, MAX_SCHEDULED);
            lastLevels = other.lastLevels;
            System.arraycopy(other.trail, 0, trail, 0, TRAIL_CYCLES);
            System.arraycopy(other.edges, 0, edges, 0, PINS);
            System.arraycopy(other.fallsLessRises, 0, fallsLessRises, 0, PINS);
        }

        int levels() {
            return latches & outputs | outside & ~outputs;
        }

        void writeLatches(int pins, int bits) {
            latches = latches & ~pins | bits & pins;
        }

        void writeOutputs(int pins, int bits) {
            outputs = outputs & ~pins | bits & pins;
        }

        void driveOutside(int pin, int newLevel) {
            outside = outside & ~(1 << pin) | newLevel << pin;
        }

        void addScheduled(int cycle, int pin, int newLevel) {
            if (scheduledCount < MAX_SCHEDULED) {
                scheduled[scheduledCount] = cycle << 5 | pin << 1 | newLevel;
                scheduledCount++;
            }
        }

        void applyScheduled() {
            int kept = 0;
            for (int i = 0; i < scheduledCount; i++) {
                int entry = scheduled[i];
                if (entry >> 5 == clock) {
                    driveOutside(entry >> 1 & 15, entry & 1);
                } else {
                    scheduled[kept] = entry;
                    kept++;
                }
            }
            scheduledCount = kept;
        }

        void endCycle() {
            int levels = levels();
            int changed = levels ^ lastLevels;
            for (int pin = 0; pin < PINS && changed >> pin != 0; pin++) {
                if ((changed >> pin & 1) == 1) {
                    edges[pin]++;
                    fallsLessRises[pin] += (levels >> pin & 1) == 1 ? -clock : clock;
                }
            }
            lastLevels = levels;
            trail[clock % TRAIL_CYCLES] = levels;
            clock++;
        }

        int levelsAfter(int cycle) {
            return cycle < 0 ? 0 : trail[cycle % TRAIL_CYCLES];
        }

        /** A pin that is high still will fall at the clock at the earliest, so that counts as a fall. */
        int highCycles(int pin) {
            boolean high = (lastLevels >> pin & 1) == 1;
            return high ? fallsLessRises[pin] + clock : fallsLessRises[pin];
        }
    }

    /** Simulates the cycles of a machine. Its fields hold what is read and written within a cycle. */
    private static final class Simulator {
        Program program;
        private Machine machine;
        private int levels;
        private int flags;
        private int raised;
        private int cleared;
        private int nextPc;

        Simulator(Program program, Machine machine) {
            this.program = program;
            this.machine = machine;
        }

        /** Returns the number of instructions that were done. */
        int simulateCycle(Machine simulated) {
            machine = simulated;
            machine.applyScheduled();
            levels = machine.levels();
            flags = machine.flags;
            raised = 0;
            cleared = 0;
            int ticking = tickingEngines();
            int granted = grantPort(ticking);
            int done = 0;
            for (int e = 0; e < ENGINES; e++) {
                boolean ticks = (ticking >> e & 1) == 1;
                if (ticks && doTick(machine.engines[e], program.setups[e], e == granted)) {
                    done++;
                }
            }
            machine.flags = flags & ~cleared | raised;
            machine.endCycle();
            return done;
        }

        private int tickingEngines() {
            int ticking = 0;
            for (int e = 0; e < ENGINES; e++) {
                Setup setup = program.setups[e];
                if (setup.defined && machine.engines[e].countCycle(setup)) {
                    ticking |= 1 << e;
                }
            }
            return ticking;
        }

        /** Returns the engine that gets the port in this cycle, or NONE. */
        private int grantPort(int ticking) {
            for (int i = 1; i <= ENGINES; i++) {
                int e = (machine.portOwner + i) % ENGINES;
                if (e >= 0 && (ticking >> e & 1) == 1 && wantsPort(machine.engines[e])) {
                    machine.portOwner = e;
                    return e;
                }
            }
            return NONE;
        }

        private boolean wantsPort(Engine engine) {
            return engine.delay == 0 && program.instructionAt(engine.pc).usesPort();
        }

        /** Returns whether the instruction was done. */
        private boolean doTick(Engine engine, Setup setup, boolean hasPort) {
            if (engine.delay > 0) {
                engine.delay--;
                engine.counts[DELAYED]++;
                return false;
            }
            Instruction step = program.instructionAt(engine.pc);
            boolean firstTry = engine.stall == COMPLETED;
            nextPc = program.addressAfter(engine.pc, setup);
            int reason = step.usesPort() ? access(step, engine, hasPort) : execute(step, engine, setup);
            // The side outputs come after those of the instruction, so that they prevail.
            if (firstTry && step.side != NONE) {
                machine.writeLatches(setup.sidePins, rotatedPins(step.side, setup.sideBase));
            }
            engine.stall = reason;
            if (reason != COMPLETED) {
                engine.counts[NOT_COMPLETED]++;
                return false;
            }
            engine.delay = step.delay;
            engine.pc = nextPc;
            engine.counts[DONE]++;
            return true;
        }

        /** Tries an instruction that needs no port; returns a stall reason, or COMPLETED. */
        private int execute(Instruction step, Engine engine, Setup setup) {
            switch (step.operation) {
                case JMP:
                    if (holds(step.first, engine, setup)) {
                        nextPc = step.number;
                    }
                    return COMPLETED;
                case WAIT:
                    return awaitLevel(step, setup);
                case IN:
                    return shiftIn(step, engine, setup);
                case OUT:
                    return shiftOut(step, engine, setup);
                case PUSH:
                    return push(step, engine, setup);
                case PULL:
                    return pull(step, engine, setup);
                case MOV:
                    deliver(step.first, moved(step, engine, setup), engine, setup);
                    return COMPLETED;
                case RAISE:
                    raised |= 1 << step.number;
                    return COMPLETED;
                case CLEAR:
                    cleared |= 1 << step.number;
                    return COMPLETED;
                case SIGNAL:
                    return signal(step, engine);
                case SET:
                    set(step, engine, setup);
                    return COMPLETED;
                default:
                    return COMPLETED;
            }
        }

        private boolean holds(Symbol condition, Engine engine, Setup setup) {
            switch (condition) {
                case XZERO:
                    return engine.x == 0;
                case YZERO:
                    return engine.y == 0;
                case XDEC:
                    engine.x--;
                    return engine.x != -1;
                case YDEC:
                    engine.y--;
                    return engine.y != -1;
                case DIFFER:
                    return engine.x != engine.y;
                case PIN:
                    return (levels >> setup.jumpPin & 1) == 1;
                case MORE:
                    return engine.spent < setup.pullLimit;
                default:
                    return true;
            }
        }

        private int awaitLevel(Instruction step, Setup setup) {
            if (step.first == Symbol.PIN) {
                int pin = (setup.inBase + step.number) % PINS;
                return (levels >> pin & 1) == step.awaited ? COMPLETED : STALL_WAIT;
            }
            if ((flags >> step.number & 1) != step.awaited) {
                return STALL_WAIT;
            }
            if (step.awaited == 1) {
                cleared |= 1 << step.number;
            }
            return COMPLETED;
        }

        private int shiftIn(Instruction step, Engine engine, Setup setup) {
            int bits = step.number;
            int source = sourceWord(step.first, engine, setup);
            int filled = Math.min(engine.fill + bits, WORD_BITS);
            boolean pushes = setup.autopush && filled >= setup.pushLimit;
            if (pushes && engine.output.isFull()) {
                return STALL_OUTPUT;
            }
            // Java shifts by 32 as by 0, so that whole words go their own way.
            if (bits == WORD_BITS) {
                engine.setIsr(source, filled);
            } else if (setup.inLeft) {
                engine.setIsr(engine.isr << bits | source & (1 << bits) - 1, filled);
            } else {
                engine.setIsr(engine.isr >>> bits | source << WORD_BITS - bits, filled);
            }
            if (pushes) {
                engine.pushIsr();
            }
            return COMPLETED;
        }

        private int shiftOut(Instruction step, Engine engine, Setup setup) {
            int bits = step.number;
            if (setup.autopull && engine.spent >= setup.pullLimit) {
                if (engine.input.size == 0) {
                    return STALL_INPUT;
                }
                engine.pullOsr();
            }
            int value = engine.osr;
            if (bits == WORD_BITS) {
                engine.osr = 0;
            } else if (setup.outLeft) {
                value >>>= WORD_BITS - bits;
                engine.osr <<= bits;
            } else {
                value &= (1 << bits) - 1;
                engine.osr >>>= bits;
            }
            engine.spent = Math.min(engine.spent + bits, WORD_BITS);
            deliver(step.first, value, engine, setup);
            if (step.first == Symbol.ISR) {
                engine.fill = bits;
            }
            return COMPLETED;
        }

        private int push(Instruction step, Engine engine, Setup setup) {
            if (step.first == Symbol.IFFULL && engine.fill < setup.pushLimit) {
                return COMPLETED;
            }
            if (!engine.output.isFull()) {
                engine.pushIsr();
                return COMPLETED;
            }
            if (step.second != Symbol.NOBLOCK) {
                return STALL_OUTPUT;
            }
            engine.setIsr(0, 0);
            engine.counts[LOST]++;
            return COMPLETED;
        }

        private int pull(Instruction step, Engine engine, Setup setup) {
            if (step.first == Symbol.IFEMPTY && engine.spent < setup.pullLimit) {
                return COMPLETED;
            }
            if (engine.input.size > 0) {
                engine.pullOsr();
                return COMPLETED;
            }
            if (step.second != Symbol.NOBLOCK) {
                return STALL_INPUT;
            }
            engine.setOsr(engine.x);
            return COMPLETED;
        }

        /** A signal that is stalled has raised its flag already; it must not raise it again. */
        private int signal(Instruction step, Engine engine) {
            if (engine.stall == COMPLETED) {
                raised |= 1 << step.number;
                return STALL_SIGNAL;
            }
            return (flags >> step.number & 1) == 0 ? COMPLETED : STALL_SIGNAL;
        }

        private void set(Instruction step, Engine engine, Setup setup) {
            int bits = rotatedPins(step.number, setup.setBase);
            if (step.first == Symbol.PINS) {
                machine.writeLatches(setup.setPins, bits);
            } else if (step.first == Symbol.DIRS) {
                machine.writeOutputs(setup.setPins, bits);
            } else {
                deliver(step.first, step.number, engine, setup);
            }
        }

        private int access(Instruction step, Engine engine, boolean hasPort) {
            if (!hasPort) {
                return STALL_PORT;
            }
            int place = placeOf(step, engine);
            if (step.operation == Symbol.STORE) {
                machine.memory[place] = storedWord(step.first, engine);
            } else if (step.first == Symbol.X) {
                engine.x = machine.memory[place];
            } else if (step.first == Symbol.Y) {
                engine.y = machine.memory[place];
            } else {
                engine.setOsr(machine.memory[place]);
            }
            return COMPLETED;
        }

        private static int placeOf(Instruction step, Engine engine) {
            if (step.second == Symbol.X) {
                return engine.x & MEMORY_WORDS - 1;
            }
            if (step.second == Symbol.Y) {
                return engine.y & MEMORY_WORDS - 1;
            }
            return step.number & MEMORY_WORDS - 1;
        }

        private static int storedWord(Symbol register, Engine engine) {
            if (register == Symbol.X) {
                return engine.x;
            }
            return register == Symbol.Y ? engine.y : engine.isr;
        }

        private int moved(Instruction step, Engine engine, Setup setup) {
            int word = sourceWord(step.second, engine, setup);
            if (step.change == Symbol.NOT) {
                return ~word;
            }
            return step.change == Symbol.REVERSE ? Integer.reverse(word) : word;
        }

        private int sourceWord(Symbol source, Engine engine, Setup setup) {
            switch (source) {
                case PINS:
                    return rotatedPins(levels, PINS - setup.inBase);
                case X:
                    return engine.x;
                case Y:
                    return engine.y;
                case ISR:
                    return engine.isr;
                case OSR:
                    return engine.osr;
                case STATUS:
                    return engine.input.size == 0 ? -1 : 0;
                default:
                    return 0;
            }
        }

        /** Gives a word to the target of a mov or an out; pins and directions are the group for out. */
        private void deliver(Symbol target, int word, Engine engine, Setup setup) {
            switch (target) {
                case PINS:
                    machine.writeLatches(setup.outPins, rotatedPins(word, setup.outBase));
                    break;
                case DIRS:
                    machine.writeOutputs(setup.outPins, rotatedPins(word, setup.outBase));
                    break;
                case X:
                    engine.x = word;
                    break;
                case Y:
                    engine.y = word;
                    break;
                case PC:
                    nextPc = program.addressOf(word);
                    break;
                case ISR:
                    engine.setIsr(word, 0);
                    break;
                case OSR:
                    engine.setOsr(word);
                    break;
                default:
                    break;
            }
        }
    }

    /** The tokens of a text, which are taken one after another, and the first error in it. */
    private static final class Tokens {
        /** Greater than every number that a grammar allows; greater numbers count as this one. */
        private static final int HUGE = 100000;

        private final byte[] text;
        private final Symbol[] symbols = new Symbol[MAX_TEXT + 1];
        private final int[] starts = new int[MAX_TEXT + 1];
        private final int[] ends = new int[MAX_TEXT + 1];
        private final int[] numbers = new int[MAX_TEXT + 1];
        /** The index of the token END, which stands after all others. */
        private int last = 0;
        int next = 0;
        int code = 0;
        int errorAt = NONE;

        Tokens(byte[] text) {
            this.text = text;
            for (int i = 0; i <= MAX_TEXT; i++) {
                symbols[i] = Symbol.END;
            }
        }

        /** Finds the tokens of the first bytes of the text. */
        void scan(int textLength) {
            int length = Math.min(textLength, Math.min(text.length, MAX_TEXT));
            last = 0;
            code = 0;
            errorAt = NONE;
            int end = 0;
            for (int i = 0; i < length; i++) {
                if (i >= end && text[i] != ' ' && text[i] != '\n') {
                    end = scanToken(i, length);
                }
            }
            symbols[last] = Symbol.END;
            starts[last] = length;
            ends[last] = length;
            rewind();
        }

        void rewind() {
            next = 0;
        }

        /** The first error stays; the other tokens are passed over, so that reading comes to its end. */
        void fail(int newCode) {
            if (code == 0) {
                code = newCode;
                errorAt = starts[next];
            }
            next = last;
        }

        boolean at(Symbol symbol) {
            return symbols[next] == symbol;
        }

        boolean atRole(int role) {
            return (symbols[next].roles & role) != 0;
        }

        boolean atNumberBelow(int bound) {
            return at(Symbol.NUMBER) && numbers[next] < bound;
        }

        /** The number that the token is, if it is one. */
        int number() {
            return numbers[next];
        }

        boolean skip(Symbol symbol) {
            if (!at(symbol) || next >= last) {
                return false;
            }
            next++;
            return true;
        }

        void expect(Symbol symbol) {
            if (!skip(symbol)) {
                fail(WRONG_TOKEN);
            }
        }

        void expectEnd() {
            if (!at(Symbol.END)) {
                fail(WRONG_TOKEN);
            }
        }

        /** Returns NOTHING, and stays where it is, if the token has no such role. */
        Symbol takeOptional(int role) {
            if (!atRole(role) || next >= last) {
                return Symbol.NOTHING;
            }
            next++;
            return symbols[next - 1];
        }

        Symbol takeRole(int role) {
            Symbol taken = takeOptional(role);
            if (taken == Symbol.NOTHING) {
                fail(WRONG_TOKEN);
            }
            return taken;
        }

        /** Returns a number of the range, also if the token is none. */
        int takeNumber(int low, int high) {
            if (!at(Symbol.NUMBER)) {
                fail(WRONG_TOKEN);
                return low;
            }
            int number = numbers[next];
            if (number < low || number > high) {
                fail(OUT_OF_RANGE);
                return low;
            }
            next = Math.min(next + 1, last);
            return number;
        }

        /** Whether the token is spelled as the one with this index. */
        boolean isSameAs(int index) {
            if (index < 0 || index > last || ends[index] - starts[index] != ends[next] - starts[next]) {
                return false;
            }
            for (int i = starts[next], j = starts[index]; i < ends[next]; i++, j++) {
                if (text[i] != text[j]) {
                    return false;
                }
            }
            return true;
        }

        /** Returns the end of the token that starts here. */
        private int scanToken(int start, int length) {
            int end = start + 1;
            int number = 0;
            Symbol symbol = Symbol.NUMBER;
            if (isDigit(text[start])) {
                number = text[start] - '0';
                for (; end < length && isDigit(text[end]); end++) {
                    number = Math.min(number * 10 + text[end] - '0', HUGE);
                }
            } else if (isLetter(text[start])) {
                while (end < length && isLetter(text[end])) {
                    end++;
                }
                symbol = Symbol.spelled(text, start, end, Symbol.NAME);
            } else {
                symbol = Symbol.spelled(text, start, end, Symbol.STRANGE);
            }
            symbols[last] = symbol;
            starts[last] = start;
            ends[last] = end;
            numbers[last] = number;
            last++;
            return end;
        }

        private static boolean isLetter(byte sign) {
            return sign >= 'a' && sign <= 'z';
        }

        private static boolean isDigit(byte sign) {
            return sign >= '0' && sign <= '9';
        }
    }

    /** Reads the text of a program, twice: labels may be defined after the names that refer to them. */
    private static final class ProgramReader {
        private final Tokens tokens;
        private Program program;
        private boolean labelsKnown = false;
        private int labelCount = 0;
        private final int[] labelTokens = new int[MAX_INSTRUCTIONS];
        private final int[] labelAddresses = new int[MAX_INSTRUCTIONS];

        ProgramReader(Tokens tokens, Program program) {
            this.tokens = tokens;
            this.program = program;
        }

        /** Reads the tokens as a program into the target, which is of no use if they have an error. */
        void readProgram(Program target) {
            program = target;
            labelsKnown = false;
            labelCount = 0;
            readClauses();
            // A name without a label is an error only if there is no other one in the whole text.
            if (tokens.code == 0) {
                labelsKnown = true;
                readClauses();
            }
        }

        private void readClauses() {
            program.clear();
            tokens.rewind();
            for (int i = 0; i < MAX_TEXT && !tokens.at(Symbol.END); i++) {
                if (tokens.skip(Symbol.ENGINE)) {
                    readEngine();
                } else if (tokens.skip(Symbol.LEVEL)) {
                    readLevel();
                } else {
                    readLabel();
                    readInstruction();
                }
                tokens.expect(Symbol.SEMICOLON);
            }
        }

        private void readEngine() {
            if (tokens.atNumberBelow(ENGINES) && program.hasEngine(tokens.number())) {
                tokens.fail(DEFINED_ALREADY);
            }
            Setup setup = program.setups[tokens.takeNumber(0, ENGINES - 1)];
            setup.defined = true;
            tokens.expect(Symbol.START);
            setup.start = takeName();
            for (int i = 0; i < MAX_TEXT && tokens.atRole(SETTING); i++) {
                readSetting(setup, tokens.takeRole(SETTING));
            }
        }

        private void readSetting(Setup setup, Symbol setting) {
            switch (setting) {
                case CLOCK:
                    setup.period = CYCLE_UNITS * tokens.takeNumber(1, 255);
                    setup.period += tokens.takeNumber(0, 255);
                    break;
                case WRAP:
                    setup.bottom = takeName();
                    setup.top = takeName();
                    break;
                case OUTPINS:
                    setup.outBase = takePin();
                    setup.outPins = takeGroup(setup.outBase, 16);
                    break;
                case SETPINS:
                    setup.setBase = takePin();
                    setup.setPins = takeGroup(setup.setBase, 5);
                    break;
                case SIDEPINS:
                    setup.sideBase = takePin();
                    setup.sidePins = takeGroup(setup.sideBase, 4);
                    break;
                case INPINS:
                    setup.inBase = takePin();
                    break;
                case JUMPPIN:
                    setup.jumpPin = takePin();
                    break;
                default:
                    readShifting(setup, setting);
                    break;
            }
        }

        private void readShifting(Setup setup, Symbol setting) {
            switch (setting) {
                case INLEFT:
                    setup.inLeft = true;
                    break;
                case OUTLEFT:
                    setup.outLeft = true;
                    break;
                case AUTOPUSH:
                    setup.autopush = true;
                    setup.pushLimit = tokens.takeNumber(1, WORD_BITS);
                    break;
                case AUTOPULL:
                    setup.autopull = true;
                    setup.pullLimit = tokens.takeNumber(1, WORD_BITS);
                    break;
                case JOININ:
                    setup.inputRoom = JOINED_ROOM;
                    break;
                case JOINOUT:
                    setup.inputRoom = 0;
                    break;
                default:
                    break;
            }
        }

        private void readLevel() {
            int pin = takePin();
            int level = tokens.takeNumber(0, 1);
            program.outside = program.outside & ~(1 << pin) | level << pin;
        }

        private void readLabel() {
            if (!tokens.at(Symbol.NAME)) {
                return;
            }
            if (!labelsKnown) {
                defineLabel();
            }
            tokens.skip(Symbol.NAME);
            tokens.expect(Symbol.COLON);
        }

        private void defineLabel() {
            if (labelAddress() != NONE) {
                tokens.fail(DEFINED_ALREADY);
            } else if (labelCount < MAX_INSTRUCTIONS) {
                labelTokens[labelCount] = tokens.next;
                labelAddresses[labelCount] = program.count;
                labelCount++;
            }
        }

        /** The address of the label that the token is; NONE if it is none. */
        private int labelAddress() {
            for (int i = 0; i < labelCount; i++) {
                if (tokens.isSameAs(labelTokens[i])) {
                    return labelAddresses[i];
                }
            }
            return NONE;
        }

        private void readInstruction() {
            if (tokens.atRole(INSTRUCTION) && program.isFull()) {
                tokens.fail(TOO_MANY);
            }
            Instruction step = program.add(tokens.takeRole(INSTRUCTION));
            readOperands(step);
            if (tokens.skip(Symbol.SIDE)) {
                step.side = tokens.takeNumber(0, 15);
            }
            if (tokens.skip(Symbol.DELAY)) {
                step.delay = tokens.takeNumber(0, 31);
            }
        }

        private void readOperands(Instruction step) {
            switch (step.operation) {
                case JMP:
                    step.first = tokens.takeOptional(CONDITION);
                    step.number = takeName();
                    break;
                case WAIT:
                    step.awaited = tokens.takeNumber(0, 1);
                    step.first = tokens.takeRole(WAITED);
                    step.number = step.first == Symbol.PIN ? takePin() : takeFlag();
                    break;
                case IN:
                    step.first = tokens.takeRole(IN_SOURCE);
                    step.number = tokens.takeNumber(1, WORD_BITS);
                    break;
                case OUT:
                    step.first = tokens.takeRole(OUT_TARGET);
                    step.number = tokens.takeNumber(1, WORD_BITS);
                    break;
                case PUSH:
                    readWays(step, Symbol.IFFULL);
                    break;
                case PULL:
                    readWays(step, Symbol.IFEMPTY);
                    break;
                case MOV:
                    step.first = tokens.takeRole(MOV_TARGET);
                    step.change = tokens.takeOptional(MOV_CHANGE);
                    step.second = tokens.takeRole(MOV_SOURCE);
                    break;
                case SET:
                    step.first = tokens.takeRole(SET_TARGET);
                    step.number = tokens.takeNumber(0, 31);
                    break;
                case LOAD:
                    step.first = tokens.takeRole(LOAD_TARGET);
                    readPlace(step);
                    break;
                case STORE:
                    step.first = tokens.takeRole(STORE_SOURCE);
                    readPlace(step);
                    break;
                default:
                    step.number = takeFlag();
                    break;
            }
        }

        private void readWays(Instruction step, Symbol condition) {
            if (tokens.skip(condition)) {
                step.first = condition;
            }
            if (tokens.skip(Symbol.NOBLOCK)) {
                step.second = Symbol.NOBLOCK;
            }
        }

        private void readPlace(Instruction step) {
            step.second = tokens.takeOptional(PLACE);
            if (step.second == Symbol.NOTHING) {
                step.number = tokens.takeNumber(0, MEMORY_WORDS - 1);
            }
        }

        private int takePin() {
            return tokens.takeNumber(0, PINS - 1);
        }

        private int takeFlag() {
            return tokens.takeNumber(0, FLAGS - 1);
        }

        private int takeGroup(int base, int maxSize) {
            int size = tokens.takeNumber(1, maxSize);
            return rotatedPins((1 << size) - 1, base);
        }

        /** Returns the address of the label; 0 as long as the labels are not known. */
        private int takeName() {
            if (!tokens.at(Symbol.NAME)) {
                tokens.fail(WRONG_TOKEN);
                return 0;
            }
            int address = labelsKnown ? labelAddress() : 0;
            if (address == NONE) {
                tokens.fail(NO_LABEL);
                return 0;
            }
            tokens.skip(Symbol.NAME);
            return address;
        }
    }

    /** Reads a query and evaluates it on the way: a test is the mask of the engines for which it holds. */
    private static final class QueryReader {
        private final Tokens tokens;
        private final Machine machine;
        private final int[] left = new int[ENGINES];
        private final int[] right = new int[ENGINES];

        QueryReader(Tokens tokens, Machine machine) {
            this.tokens = tokens;
            this.machine = machine;
        }

        /** The depth is the number of 'not' and '(' that are open. */
        private int readTest(int depth) {
            int holds = readConjunction(depth);
            for (int i = 0; i < MAX_QUERY && tokens.skip(Symbol.OR); i++) {
                holds |= readConjunction(depth);
            }
            return holds;
        }

        private int readConjunction(int depth) {
            int holds = readFactor(depth);
            for (int i = 0; i < MAX_QUERY && tokens.skip(Symbol.AND); i++) {
                holds &= readFactor(depth);
            }
            return holds;
        }

        private int readFactor(int depth) {
            if (!tokens.at(Symbol.NOT) && !tokens.at(Symbol.OPEN)) {
                return readComparison();
            }
            if (depth >= MAX_OPEN) {
                tokens.fail(TOO_MANY);
                return 0;
            }
            if (tokens.skip(Symbol.NOT)) {
                return ~readFactor(depth + 1);
            }
            tokens.skip(Symbol.OPEN);
            int holds = readTest(depth + 1);
            tokens.expect(Symbol.CLOSE);
            return holds;
        }

        private int readComparison() {
            readValue(left);
            Symbol comparison = tokens.takeRole(COMPARISON);
            readValue(right);
            int holds = 0;
            for (int e = 0; e < ENGINES; e++) {
                if (compares(left[e], comparison, right[e])) {
                    holds |= 1 << e;
                }
            }
            return holds;
        }

        private static boolean compares(int a, Symbol comparison, int b) {
            if (comparison == Symbol.LESS) {
                return a < b;
            }
            return comparison == Symbol.GREATER ? a > b : a == b;
        }

        /** Fills the row with the value for each engine. */
        private void readValue(int[] row) {
            Symbol property = tokens.takeOptional(PROPERTY);
            int number = property == Symbol.NOTHING ? tokens.takeNumber(0, 99999) : 0;
            for (int e = 0; e < ENGINES && e < row.length; e++) {
                row[e] = property == Symbol.NOTHING ? number : propertyOf(e, property);
            }
        }

        private int propertyOf(int e, Symbol property) {
            Engine engine = machine.engines[e];
            switch (property) {
                case ENGINE:
                    return e;
                case PC:
                    return engine.pc;
                case X:
                    return engine.x;
                case Y:
                    return engine.y;
                case ISR:
                    return engine.isr;
                case OSR:
                    return engine.osr;
                case FILL:
                    return engine.fill;
                case SPENT:
                    return engine.spent;
                case DELAY:
                    return engine.delay;
                case STALL:
                    return engine.stall;
                case INPUT:
                    return engine.input.size;
                default:
                    return engine.output.size;
            }
        }
    }
}
