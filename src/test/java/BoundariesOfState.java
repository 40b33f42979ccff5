/** Words, pins, flags, memory, the engines at first, and promises 5 to 26, which tell the state. */
final class BoundariesOfState {
    private static final String FOUR = "engine 0 start a;engine 1 start a;engine 2 start a;engine 3 start a;a:push;";

    private BoundariesOfState() {
    }

    /** The engines 0 and 3, the first number and the last one; 1 and 2 do not exist. */
    private static PinEngines twoEngines() {
        PinEngines x = Checks.loaded("engine 3 start a;engine 0 start b;a:push;b:set x 5 delay 3;pull;");
        x.run(3);
        return x;
    }

    /** A call that tells something of an engine: refused for -1, 4 and more, and for numbers that no text defined. */
    private static void onlyExistingEngines(Range.Numbered call) {
        Range.ofElements(twoEngines(), 0, 3, call);
        PinEngines x = twoEngines();
        Checks.noSuchElement("engine 1, which the text does not define", () -> call.make(x, 1));
        Checks.noSuchElement("engine 2, which the text does not define", () -> call.make(x, 2));
        Checks.noSuchElement("engine 0 of a new object", () -> call.make(new PinEngines(), 0));
        Checks.load(x, "engine 1 start a;a:push;");
        Checks.noSuchElement("engine 3, which a later text does not define", () -> call.make(x, 3));
        Checks.nothingThrown("engine 1, which it does", () -> call.make(x, 1));
    }

    private static void onlyPins(Range.Numbered call) {
        Range.ofElements(twoEngines(), 0, 15, call);
        PinEngines x = new PinEngines();
        Checks.noSuchElement("pin 16 of a new object", () -> call.make(x, 16));
        Checks.nothingThrown("pin 15 of a new object", () -> call.make(x, 15));
    }

    @Sentence(of = "Description", says = "A word has 32 bits; it is given as an int (signed), "
            + "unless something else is said.")
    static void extremeWords() {
        for (int word : new int[] {Integer.MIN_VALUE, Integer.MAX_VALUE, -1, 0, 1}) {
            PinEngines x = Checks.engine("", "pull;mov x osr;mov isr osr;push;store x 15;");
            x.put(0, word);
            x.poke(0, word);
            x.run(5);
            Checks.due("X", x.register(0, 0), word);
            Checks.due("O", x.register(0, 3), word);
            Checks.due("memory(0)", x.memory(0), word);
            Checks.due("memory(15)", x.memory(15), word);
            Checks.due("queued", x.queued(0, true, 0), word & 0xFFFFFFFFL);
        }
    }

    @Sentence(of = "Description", says = "There are 16 pins, 0 to 15.")
    static void sixteenPins() {
        PinEngines x = Checks.loaded("level 0 1;level 15 1;");
        Checks.due("the levels", Checks.levels(x), 0x8001);
        x.drive(0, 0);
        Checks.due("the levels", Checks.levels(x), 0x8000);
        x.drive(15, 0);
        Checks.due("the levels", Checks.levels(x), 0);
        Checks.noSuchElement("level(16)", () -> x.level(16));
        Checks.noSuchElement("level(-1)", () -> x.level(-1));
    }

    @Sentence(of = "Description", says = "Every pin has an output bit (0 at first), "
            + "a direction (input at first, or output) and an outside level (0 at first).")
    static void pinsAtFirst() {
        for (PinEngines x : new PinEngines[] {new PinEngines(), Checks.loaded(""), Checks.loaded(FOUR)}) {
            Checks.due("the output bits", Checks.latches(x), 0);
            Checks.due("the directions", Checks.outputs(x), 0);
            Checks.due("the levels", Checks.levels(x), 0);
        }
    }

    @Sentence(of = "Description", says = "There are 8 flags, 0 to 7 (0 at first), and a memory of 16 words (0 at first).")
    static void flagsAndMemoryAtFirst() {
        PinEngines x = Checks.engine("", "raise 0;raise 7;set x 9;store x 0;store x 15;clear 0;clear 7;");
        Checks.due("the flags", Checks.flags(x), 0);
        for (int address = 0; address < 16; address++) {
            Checks.due("memory(" + address + ")", x.memory(address), 0);
        }
        x.run(5);
        Checks.due("the flags", Checks.flags(x), 0x81);
        Checks.due("memory(0)", x.memory(0), 9);
        Checks.due("memory(15)", x.memory(15), 9);
        x.run(1);
        Checks.due("the flags", Checks.flags(x), 0x80);
        x.run(1);
        Checks.due("the flags", Checks.flags(x), 0);
        Checks.noSuchElement("flag(8)", () -> x.flag(8));
        Checks.noSuchElement("memory(16)", () -> x.memory(16));
    }

    @Sentence(of = "Program and engines", says = "The program has at most 32 instructions, with the addresses 0, 1, ...")
    static void addressesOfInstructions() {
        PinEngines x = Checks.loaded("engine 0 start a;a:" + "push noblock;".repeat(31) + "pull;");
        Checks.due("format(0)", Checks.format(x, 0), "push noblock");
        Checks.due("format(31)", Checks.format(x, 31), "pull");
        Checks.noSuchElement("format(32)", () -> x.format(32));
        x.run(31);
        Checks.due("pc at the last instruction", x.pc(0), 31);
        Checks.due("load of 33 instructions", Checks.load(x, "push;".repeat(33)), -13);
    }

    @Sentence(of = "Program and engines", says = "There are at most four engines, numbered 0 to 3;")
    static void fourEngines() {
        PinEngines x = Checks.loaded(FOUR);
        Checks.due("engines", x.engines(), 15);
        Checks.due("run(1) of four engines", x.run(1), 4);
        Checks.noSuchElement("pc(4)", () -> x.pc(4));
        Checks.due("load of engine 4", Checks.load(x, "engine 4 start a;a:push;"), -12);
        Checks.due("engines", x.engines(), 15);
    }

    @Sentence(of = "Program and engines", says = "which hold 4 words each (or 8 and 0, or 0 and 8, if they are joined).")
    static void roomOfQueues() {
        roomOfQueues("", 4, 4);
        roomOfQueues("joinin", 8, 0);
        roomOfQueues("joinout", 0, 8);
    }

    private static void roomOfQueues(String setting, int input, int output) {
        PinEngines x = Checks.engine(setting, "push;");
        for (int i = 1; i <= input; i++) {
            Checks.due("put of word " + i, x.put(0, i), i);
        }
        Checks.due("put into the full queue", x.put(0, 1), -2);
        Checks.due("queueSize of the input", x.queueSize(0, false), input);
        Checks.due("words pushed", x.run(20), output);
        Checks.due("queueSize of the output", x.queueSize(0, true), output);
        Checks.due("stall at the full queue", x.stall(0), 3);
        for (int i = 0; i < output; i++) {
            Checks.due("take", x.take(0), 0);
        }
        Checks.due("take from the empty queue", x.take(0), -2);
    }

    @Sentence(of = "Program and engines", says = "the fill count (0 to 32, bits shifted into I)")
    static void rangeOfTheFillCount() {
        PinEngines x = Checks.engine("", "in null 31;in null 1;in null 1;in null 32;push;");
        int[] fills = {0, 31, 32, 32, 32, 0};
        for (int cycle = 0; cycle < fills.length; cycle++) {
            Checks.due("fill after " + cycle + " cycles", x.fill(0), fills[cycle]);
            x.run(1);
        }
    }

    @Sentence(of = "Program and engines", says = "the spent count (0 to 32, bits shifted out of O)")
    static void rangeOfTheSpentCount() {
        PinEngines x = Checks.engine("", "out null 1;pull noblock;out null 31;out null 1;out null 32;mov osr x;");
        int[] spents = {32, 32, 0, 31, 32, 32, 0};
        for (int cycle = 0; cycle < spents.length; cycle++) {
            Checks.due("spent after " + cycle + " cycles", x.spent(0), spents[cycle]);
            x.run(1);
        }
    }

    @Sentence(of = "Program and engines", says = "At first an engine is enabled, its pc is its start, its words "
            + "and the fill count are 0, the spent count is 32, it has no delay ticks, it is not stalled, "
            + "and its queues are empty.")
    static void enginesAtFirst() {
        PinEngines x = Checks.loaded("engine 3 start b autopull 1 autopush 1 joinin clock 255 255;a:push;b:pull delay 31;");
        Checks.due("isEnabled", x.isEnabled(3), true);
        Checks.due("pc", x.pc(3), 1);
        for (int which = 0; which < 4; which++) {
            Checks.due("register " + which, x.register(3, which), 0);
        }
        Checks.due("fill", x.fill(3), 0);
        Checks.due("spent", x.spent(3), 32);
        Checks.due("delayLeft", x.delayLeft(3), 0);
        Checks.due("stall", x.stall(3), 0);
        Checks.due("the queues", Checks.words(x, 3, false) + Checks.words(x, 3, true), "[][]");
        for (int what = 0; what < 6; what++) {
            Checks.due("count " + what, x.count(3, what), 0);
        }
    }

    @Sentence(of = "Program and engines", says = "A group of pins with the base b and the size n consists of the pins b, "
            + "(b + 1) mod 16, ... (n pins).")
    static void groupsGoRoundTheLastPin() {
        int[][] groups = {{0, 1, 0x0001}, {15, 1, 0x8000}, {0, 16, 0xFFFF}, {15, 16, 0xFFFF}, {15, 2, 0x8001},
            {1, 15, 0xFFFE}, {2, 15, 0xFFFD}, {8, 9, 0xFF01}};
        for (int[] group : groups) {
            String pins = " " + group[0] + " " + group[1];
            PinEngines x = Checks.ran(1, "outpins" + pins, "mov pins not null;");
            Checks.due("out to the group" + pins, Checks.latches(x), group[2]);
            PinEngines y = Checks.ran(2, "outpins" + pins, "mov osr not null;out dirs 32;");
            Checks.due("directions of the group" + pins, Checks.outputs(y), group[2]);
        }
        int[][] small = {{15, 1, 0x8000}, {15, 4, 0x8007}, {12, 4, 0xF000}, {13, 4, 0xE001}};
        for (int[] group : small) {
            String pins = " " + group[0] + " " + group[1];
            Checks.due("set of the group" + pins,
                    Checks.latches(Checks.ran(1, "setpins" + pins, "set pins 31;")), group[2]);
            Checks.due("side output of the group" + pins,
                    Checks.latches(Checks.ran(1, "sidepins" + pins, "push side 15;")), group[2]);
        }
        Checks.due("set of five pins", Checks.latches(Checks.ran(1, "setpins 11 5", "set pins 31;")), 0xF800);
        Checks.due("set of five pins", Checks.outputs(Checks.ran(1, "setpins 15 5", "set dirs 31;")), 0x800F);
    }

    @Sentence(of = "Program and engines", says = "To write a value to a group means: "
            + "its pin number i (from 0) gets bit i of the value.")
    static void firstAndLastPinOfAGroup() {
        Checks.due("bit 0 at the base 15", Checks.latches(Checks.ran(1, "setpins 15 5", "set pins 1;")), 0x8000);
        Checks.due("bit 4 at the base 15", Checks.latches(Checks.ran(1, "setpins 15 5", "set pins 16;")), 0x0008);
        Checks.due("bit 4 in a group of 4", Checks.latches(Checks.ran(1, "setpins 15 4", "set pins 16;")), 0);
        Checks.due("bit 3 of a side value", Checks.latches(Checks.ran(1, "sidepins 15 4", "push side 8;")), 0x0004);
        Checks.due("bit 3 in a group of 3", Checks.latches(Checks.ran(1, "sidepins 15 3", "push side 8;")), 0);
        PinEngines x = Checks.ran(2, "outpins 15 16", "load x 0;mov pins x;");
        Checks.due("no bit", Checks.latches(x), 0);
        for (int bit = 0; bit < 32; bit++) {
            PinEngines y = Checks.engine("outpins 15 16", "load x 0;mov pins x;");
            y.poke(0, 1 << bit);
            y.run(2);
            Checks.due("bit " + bit + " of 16 pins", Checks.latches(y), bit > 15 ? 0 : 1 << (bit + 15) % 16);
        }
    }

    @Sentence(of = "Program and engines", says = "(all of size 0 at first), and an input base.")
    static void groupsOfSizeZero() {
        PinEngines x = Checks.engine("", "mov pins not null side 15;mov osr not null;out pins 32 side 15;set pins 31;"
                + "set dirs 31;mov osr not null;out dirs 32;");
        Checks.due("run", x.run(7), 7);
        Checks.due("the output bits", Checks.latches(x), 0);
        Checks.due("the directions", Checks.outputs(x), 0);
    }

    @Sentence(of = "Program and engines", says = "Its pin value is the word in which bit i (0 to 15) "
            + "is the level of the pin (input base + i) mod 16, and the other bits are 0.")
    static void pinValueGoesRoundTheLastPin() {
        for (int base = 0; base < 16; base++) {
            for (int pin : new int[] {0, 1, 14, 15}) {
                PinEngines x = Checks.ran(2, "inpins " + base, "mov x pins;mov y not pins;");
                Checks.due("the value of no pin", x.register(0, 0), 0);
                PinEngines y = Checks.loaded("level " + pin + " 1;engine 0 start a inpins " + base
                        + ";a:mov x pins;mov y not pins;");
                y.run(2);
                int value = 1 << (pin + 16 - base) % 16;
                Checks.due("the value of pin " + pin + " at the base " + base, y.register(0, 0), value);
                Checks.due("not the value of pin " + pin + " at the base " + base, y.register(0, 1), ~value);
            }
        }
    }

    @Sentence(of = "Program and engines", says = "both are 32 without the setting.")
    static void limitsWithoutSetting() {
        PinEngines x = Checks.ran(4, "", "in null 31;push iffull;in null 1;push iffull;");
        Checks.due("push iffull at 31 and at 32", x.count(0, 3), 1);
        PinEngines y = Checks.ran(3, "", "mov osr x;out null 31;b:jmp more b;");
        Checks.due("more at 31", y.pc(0), 2);
        PinEngines z = Checks.ran(3, "", "mov osr x;out null 32;b:jmp more b;");
        Checks.due("more at 32", z.pc(0), 0);
        PinEngines on = Checks.ran(2, "autopush 31", "in null 30;push iffull;");
        Checks.due("push iffull at 30 of 31", on.count(0, 3), 0);
    }

    @Sentence(of = "Promise 5", says = "Returns the number of instructions.")
    static void instructionCounts() {
        Checks.due("of a new object", new PinEngines().instructionCount(), 0);
        Checks.due("of an empty program", Checks.loaded("level 1 1;").instructionCount(), 0);
        Checks.due("of 32", Checks.loaded("push;".repeat(32)).instructionCount(), 32);
    }

    @Sentence(of = "Promise 6", says = "Returns the engines that exist, as a bit mask.")
    static void engineMasks() {
        Checks.due("of a new object", new PinEngines().engines(), 0);
        Checks.due("of an empty program", Checks.loaded("").engines(), 0);
        Checks.due("of engine 0", Checks.loaded("engine 0 start a;a:push;").engines(), 1);
        Checks.due("of engine 3", Checks.loaded("engine 3 start a;a:push;").engines(), 8);
        Checks.due("of all", Checks.loaded(FOUR).engines(), 15);
    }

    @Sentence(of = "Promise 7", says = "Returns the clock.")
    static void clocks() {
        PinEngines x = new PinEngines();
        Checks.due("of a new object", x.clock(), 0);
        x.run(0);
        Checks.due("after run(0)", x.clock(), 0);
        x.run(1);
        Checks.due("after run(1)", x.clock(), 1);
        x.run(1000);
        Checks.due("after run(1000)", x.clock(), 1001);
    }

    @Sentence(of = "Promise 8", says = "Throws `NoSuchElementException` if there is no such pin")
    static void levelOfNoPin() {
        onlyPins((x, pin) -> x.level(pin));
    }

    @Sentence(of = "Promise 9", says = "Throws `NoSuchElementException` if there is no such pin")
    static void latchOfNoPin() {
        onlyPins((x, pin) -> x.latch(pin));
    }

    @Sentence(of = "Promise 10", says = "Throws `NoSuchElementException` if there is no such pin")
    static void directionOfNoPin() {
        onlyPins((x, pin) -> x.isOutput(pin));
    }

    @Sentence(of = "Promise 11", says = "Throws `NoSuchElementException` if there is no such flag")
    static void noFlag() {
        Range.ofElements(twoEngines(), 0, 7, (x, flag) -> x.flag(flag));
        Range.ofElements(new PinEngines(), 0, 7, (x, flag) -> x.flag(flag));
    }

    @Sentence(of = "Promise 12", says = "Throws `NoSuchElementException` if address is not 0 to 15")
    static void noMemory() {
        Range.ofElements(twoEngines(), 0, 15, (x, address) -> x.memory(address));
        Range.ofElements(new PinEngines(), 0, 15, (x, address) -> x.memory(address));
    }

    @Sentence(of = "Promise 13", says = "Returns the engine that got the port last; NONE if none has got it yet.")
    static void portOwners() {
        PinEngines x = Checks.loaded("engine 0 start a;engine 3 start b;a:set x 1;set y 1;load x 0;set x 1;b:store x 15;"
                + "c:jmp c;");
        Checks.due("of a new object", new PinEngines().portOwner(), PinEngines.NONE);
        Checks.due("before any cycle", x.portOwner(), PinEngines.NONE);
        x.poke(0, 1);
        Checks.due("after a poke", x.portOwner(), PinEngines.NONE);
        x.run(1);
        Checks.due("after the store", x.portOwner(), 3);
        x.run(1);
        Checks.due("it stays", x.portOwner(), 3);
        x.run(1);
        Checks.due("after the load", x.portOwner(), 0);
        x.restart(0);
        Checks.due("after a restart", x.portOwner(), 0);
    }

    @Sentence(of = "Promise 14", says = "Throws `NoSuchElementException` if there is no such engine")
    static void pcOfNoEngine() {
        onlyExistingEngines((x, engine) -> x.pc(engine));
    }

    @Sentence(of = "Promise 15", says = "Throws `NoSuchElementException` if there is no such engine "
            + "or which is out of range")
    static void registerOfNoEngine() {
        onlyExistingEngines((x, engine) -> x.register(engine, 0));
        onlyExistingEngines((x, engine) -> x.register(engine, 3));
    }

    @Sentence(of = "Promise 15", says = "which is out of range")
    static void noRegister() {
        Range.ofElements(twoEngines(), 0, 3, (x, which) -> x.register(0, which));
        Range.ofElements(twoEngines(), 0, 3, (x, which) -> x.register(3, which));
    }

    @Sentence(of = "Promise 15", says = "0 X, 1 Y, 2 I, 3 O")
    static void registersInOrder() {
        PinEngines x = Checks.ran(5, "", "set x 4;mov osr x;set x 3;mov isr x;set x 1;set y 2;");
        x.run(1);
        for (int which = 0; which < 4; which++) {
            Checks.due("register " + which, x.register(0, which), which == 0 ? 1 : which == 1 ? 2 : which + 1);
        }
    }

    @Sentence(of = "Promise 16", says = "Throws `NoSuchElementException` if there is no such engine")
    static void fillOfNoEngine() {
        onlyExistingEngines((x, engine) -> x.fill(engine));
    }

    @Sentence(of = "Promise 17", says = "Throws `NoSuchElementException` if there is no such engine")
    static void spentOfNoEngine() {
        onlyExistingEngines((x, engine) -> x.spent(engine));
    }

    @Sentence(of = "Promise 18", says = "Throws `NoSuchElementException` if there is no such engine")
    static void delayOfNoEngine() {
        onlyExistingEngines((x, engine) -> x.delayLeft(engine));
    }

    @Sentence(of = "Promise 19", says = "Throws `NoSuchElementException` if there is no such engine")
    static void stallOfNoEngine() {
        onlyExistingEngines((x, engine) -> x.stall(engine));
    }

    @Sentence(of = "Promise 19", says = "Returns the stall reason of an engine; 0 if it is not stalled.")
    static void stallReasons() {
        String[] instructions = {"push;", "wait 1 pin 0;", "pull;", "in null 32;", "", "signal 0;"};
        for (int reason = 0; reason < 6; reason++) {
            if (reason != 4) {
                PinEngines x = Checks.engine("autopush 32 autopull 32" + (reason == 3 ? " joinin" : ""),
                        instructions[reason]);
                Checks.due("stall before the first tick", x.stall(0), 0);
                x.run(1);
                Checks.due("stall after it", x.stall(0), reason);
            }
        }
        PinEngines port = Checks.loaded("engine 0 start a;engine 1 start a;a:load x 0;");
        port.run(1);
        Checks.due("stall with the port", port.stall(0), 0);
        Checks.due("stall without the port", port.stall(1), 4);
        port.run(1);
        Checks.due("stall without the port", port.stall(0), 4);
        Checks.due("stall with the port", port.stall(1), 0);
    }

    @Sentence(of = "Promise 20", says = "Throws `NoSuchElementException` if there is no such engine")
    static void enabledOfNoEngine() {
        onlyExistingEngines((x, engine) -> x.isEnabled(engine));
    }

    @Sentence(of = "Promise 21", says = "Throws `NoSuchElementException` if there is no such engine")
    static void queueOfNoEngine() {
        onlyExistingEngines((x, engine) -> x.queueSize(engine, false));
        onlyExistingEngines((x, engine) -> x.queueSize(engine, true));
    }

    @Sentence(of = "Promise 22", says = "Throws `NoSuchElementException` if there is no such engine or index is negative")
    static void queuedOfNoEngine() {
        onlyExistingEngines((x, engine) -> x.queued(engine, false, 0));
        onlyExistingEngines((x, engine) -> x.queued(engine, true, 0));
        PinEngines x = twoEngines();
        Checks.noSuchElement("queued(1, false, -1)", () -> x.queued(1, false, -1));
    }

    @Sentence(of = "Promise 22", says = "index is negative")
    static void queuedAtANegativeIndex() {
        PinEngines x = twoEngines();
        x.put(0, 7);
        String before = Checks.brief(x);
        for (int index : new int[] {-1, -2, -8, Integer.MIN_VALUE}) {
            Checks.noSuchElement("queued(0, false, " + index + ")", () -> x.queued(0, false, index));
            Checks.noSuchElement("queued(0, true, " + index + ")", () -> x.queued(0, true, index));
        }
        Checks.due("the state after the exceptions", Checks.brief(x), before);
        Checks.due("queued(0, false, 0)", x.queued(0, false, 0), 7);
    }

    @Sentence(of = "Promise 22", says = "NONE if there are not so many.")
    static void queuedBeyondTheLast() {
        PinEngines x = Checks.engine("", "push;push;push;push;b:jmp b;");
        for (int size = 0; size <= 4; size++) {
            for (int index = 0; index < 10; index++) {
                Checks.due("queued(0, false, " + index + ") of " + size, x.queued(0, false, index),
                        index < size ? 100 + index : PinEngines.NONE);
                Checks.due("queued(0, true, " + index + ") of " + size, x.queued(0, true, index),
                        index < size ? 0 : PinEngines.NONE);
            }
            Checks.due("queued(0, false, MAX_VALUE)", x.queued(0, false, Integer.MAX_VALUE), PinEngines.NONE);
            Checks.due("queueSize", x.queueSize(0, false) * 10 + x.queueSize(0, true), 11 * size);
            x.put(0, 100 + size);
            x.run(1);
        }
        x.take(0);
        Checks.due("queued(0, true, 3) after a take", x.queued(0, true, 3), PinEngines.NONE);
    }

    @Sentence(of = "Promise 22", says = "Returns the word, unsigned; NONE if there are not so many.")
    static void queuedUnsigned() {
        PinEngines x = Checks.engine("", "mov isr not null;push;");
        x.put(0, -1);
        x.put(0, Integer.MIN_VALUE);
        x.put(0, Integer.MAX_VALUE);
        x.put(0, -2);
        Checks.due("-1", x.queued(0, false, 0), 4294967295L);
        Checks.due("MIN_VALUE", x.queued(0, false, 1), 2147483648L);
        Checks.due("MAX_VALUE", x.queued(0, false, 2), 2147483647L);
        Checks.due("-2", x.queued(0, false, 3), 4294967294L);
        x.run(2);
        Checks.due("-1 in the output queue", x.queued(0, true, 0), 4294967295L);
    }

    @Sentence(of = "Promise 23", says = "Throws `NoSuchElementException` if there is no such engine "
            + "or what is out of range")
    static void countOfNoEngine() {
        onlyExistingEngines((x, engine) -> x.count(engine, 0));
        onlyExistingEngines((x, engine) -> x.count(engine, 5));
    }

    @Sentence(of = "Promise 23", says = "what is out of range")
    static void noCount() {
        Range.ofElements(twoEngines(), 0, 5, (x, what) -> x.count(0, what));
        Range.ofElements(twoEngines(), 0, 5, (x, what) -> x.count(3, what));
    }

    @Sentence(of = "Promise 23", says = "Returns a count of an engine since the program was loaded.")
    static void countsStartAtZero() {
        String program = "engine 0 start a;a:pull noblock delay 1;push noblock;";
        PinEngines x = Checks.loaded(program);
        x.put(0, 1);
        // Three cycles a round: six whole rounds and a pull. Four of the six words that were pushed had room.
        x.run(19);
        int[] due = {13, 0, 6, 4, 1, 2};
        for (int what = 0; what < 6; what++) {
            Checks.due("count " + what, x.count(0, what), due[what]);
        }
        Checks.load(x, program);
        for (int what = 0; what < 6; what++) {
            Checks.due("count " + what + " after load", x.count(0, what), 0);
        }
    }

    @Sentence(of = "Promise 24", says = "Throws `NoSuchElementException` if there is no such pin or age is out of range")
    static void levelAtNoPin() {
        onlyPins((x, pin) -> x.levelAt(pin, 0));
        onlyPins((x, pin) -> x.levelAt(pin, 63));
    }

    @Sentence(of = "Promise 24", says = "0 for the end of the most recent cycle, up to 63")
    static void agesOutOfRange() {
        Range.ofElements(twoEngines(), 0, 63, (x, age) -> x.levelAt(0, age));
        Range.ofElements(new PinEngines(), 0, 63, (x, age) -> x.levelAt(15, age));
        PinEngines old = new PinEngines();
        old.run(1000);
        Range.ofElements(old, 0, 63, (x, age) -> x.levelAt(15, age));
    }

    @Sentence(of = "Promise 24", says = "Returns the level at the end of the cycle clock - 1 - age; "
            + "NONE if there was no such cycle.")
    static void levelsBeforeTheFirstCycle() {
        PinEngines x = Checks.loaded("level 15 1;");
        Checks.due("levelAt(15, 0) before any cycle", x.levelAt(15, 0), PinEngines.NONE);
        Checks.due("levelAt(15, 63) before any cycle", x.levelAt(15, 63), PinEngines.NONE);
        x.run(1);
        x.drive(15, 0);
        Checks.due("levelAt(15, 0) after cycle 0", x.levelAt(15, 0), 1);
        Checks.due("levelAt(15, 1) after cycle 0", x.levelAt(15, 1), PinEngines.NONE);
        x.run(62);
        Checks.due("levelAt(15, 62) at the clock 63", x.levelAt(15, 62), 1);
        Checks.due("levelAt(15, 61) at the clock 63", x.levelAt(15, 61), 0);
        Checks.due("levelAt(15, 63) at the clock 63", x.levelAt(15, 63), PinEngines.NONE);
        x.run(1);
        Checks.due("levelAt(15, 63) at the clock 64", x.levelAt(15, 63), 1);
        Checks.due("levelAt(15, 0) at the clock 64", x.levelAt(15, 0), 0);
        x.drive(15, 1);
        x.run(1);
        Checks.due("levelAt(15, 63) at the clock 65", x.levelAt(15, 63), 0);
        Checks.due("levelAt(15, 0) at the clock 65", x.levelAt(15, 0), 1);
        Checks.due("levelAt(15, 1) at the clock 65", x.levelAt(15, 1), 0);
        x.run(64);
        Checks.due("levelAt(15, 63) at the clock 129", x.levelAt(15, 63), 1);
        x.undo();
        Checks.due("levelAt(15, 1) after undo", x.levelAt(15, 1), 0);
    }

    @Sentence(of = "Promise 24", says = "NONE if there was no such cycle.")
    static void levelsBeforeALoad() {
        PinEngines x = new PinEngines();
        x.drive(3, 1);
        x.run(100);
        Checks.load(x, "level 3 1;");
        Checks.due("levelAt(3, 0) after load", x.levelAt(3, 0), PinEngines.NONE);
        x.run(1);
        Checks.due("levelAt(3, 0)", x.levelAt(3, 0), 1);
        Checks.due("levelAt(3, 1)", x.levelAt(3, 1), PinEngines.NONE);
    }

    @Sentence(of = "Promise 25", says = "Returns the number of cycles at whose end the level of a pin was different "
            + "from that at the end of the cycle before (for cycle 0: from that when the program was loaded).")
    static void edgesOfCycle0() {
        PinEngines x = Checks.loaded("level 0 1;level 1 1;level 15 1;");
        x.drive(0, 0);
        x.drive(2, 1);
        x.drive(3, 1);
        x.drive(3, 0);
        Checks.due("edges before any cycle", x.edges(0) + x.edges(2), 0);
        x.run(1);
        int[] due = {1, 0, 1, 0};
        for (int pin = 0; pin < 4; pin++) {
            Checks.due("edges(" + pin + ") of cycle 0", x.edges(pin), due[pin]);
        }
        Checks.due("edges(15) of cycle 0", x.edges(15), 0);
        x.drive(15, 0);
        x.run(1);
        Checks.due("edges(15) of cycle 1", x.edges(15), 1);
        x.run(1);
        Checks.due("edges(15) of cycle 2", x.edges(15), 1);
        PinEngines scheduled = Checks.loaded("level 4 1;");
        scheduled.schedule(0, 4, 0);
        scheduled.schedule(1, 4, 1);
        scheduled.schedule(1, 4, 0);
        scheduled.run(2);
        Checks.due("edges of scheduled levels", scheduled.edges(4), 1);
    }

    @Sentence(of = "Promise 25", says = "Throws `NoSuchElementException` if there is no such pin")
    static void edgesOfNoPin() {
        onlyPins((x, pin) -> x.edges(pin));
    }

    @Sentence(of = "Promise 26", says = "Returns the number of cycles at whose end the level of a pin was 1.")
    static void highTimesAtTheEnds() {
        PinEngines x = Checks.loaded("level 0 1;level 15 1;");
        Checks.due("highTime before any cycle", x.highTime(0), 0);
        x.run(1);
        Checks.due("highTime of one cycle", x.highTime(0), 1);
        x.drive(0, 0);
        Checks.due("highTime after a drive", x.highTime(0), 1);
        x.run(1);
        Checks.due("highTime after a low cycle", x.highTime(0), 1);
        x.drive(0, 1);
        Checks.due("highTime before the next cycle", x.highTime(0), 1);
        x.run(1);
        Checks.due("highTime after it", x.highTime(0), 2);
        x.run(1000);
        Checks.due("highTime after 1000 cycles more", x.highTime(0), 1002);
        Checks.due("highTime of a pin that was always high", x.highTime(15), 1003);
        Checks.due("highTime of a pin that was never high", x.highTime(14), 0);
    }

    @Sentence(of = "Promise 26", says = "Throws `NoSuchElementException` if there is no such pin")
    static void highTimeOfNoPin() {
        onlyPins((x, pin) -> x.highTime(pin));
    }
}
