/** The sentences of the promises that name no boundary case. */
final class SentencesOfPromises {
    private static final String SHIFTING = "set x 21;in x 5;push;set y 3;pull;out isr 6;in y 2;";

    private SentencesOfPromises() {
    }

    @Sentence(of = "Promise 3", says = "number of bytes to read")
    static void bytesToLoad() {
        PinEngines x = new PinEngines();
        Checks.feed(x, "push;push;push;");
        Checks.due("load(10)", x.load(10), 2);
        Checks.feed(x, "push;push;push;");
        Checks.due("load(9)", x.load(9), -11);
        Checks.due("errorPosition", x.errorPosition(), 9);
    }

    @Sentence(of = "Promise 8", says = "Returns the level of a pin now.")
    static void levelNow() {
        PinEngines x = Checks.engine("setpins 3 1", "set dirs 1;set pins 1;set pins 0;");
        x.drive(3, 1);
        Checks.due("level from outside", x.level(3), 1);
        int[] levels = {0, 1, 0};
        for (int level : levels) {
            x.run(1);
            Checks.due("level in cycle " + x.clock(), x.level(3), level);
        }
        Checks.due("another pin", x.level(4), 0);
    }

    @Sentence(of = "Promise 9", says = "Returns the output bit of a pin.")
    static void outputBit() {
        PinEngines x = Checks.ran(1, "setpins 3 2", "set pins 2;set pins 1;");
        Checks.due("latch(3)", x.latch(3), 0);
        Checks.due("latch(4)", x.latch(4), 1);
        x.run(1);
        Checks.due("latch(3)", x.latch(3), 1);
        Checks.due("latch(4)", x.latch(4), 0);
        x.drive(4, 1);
        Checks.due("latch(4) of a pin that is driven", x.latch(4), 0);
    }

    @Sentence(of = "Promise 10", says = "Returns whether the direction of a pin is output.")
    static void direction() {
        PinEngines x = Checks.ran(1, "setpins 3 2", "set dirs 2;set pins 3;set dirs 1;");
        Checks.due("isOutput(3)", x.isOutput(3), false);
        Checks.due("isOutput(4)", x.isOutput(4), true);
        x.run(2);
        Checks.due("isOutput(3)", x.isOutput(3), true);
        Checks.due("isOutput(4)", x.isOutput(4), false);
    }

    @Sentence(of = "Promise 11", says = "Returns a flag.")
    static void flagOf() {
        PinEngines x = Checks.ran(2, "", "raise 2;raise 5;clear 2;");
        Checks.due("the flags", Checks.flags(x), 0b100100);
        x.run(1);
        Checks.due("flag(2)", x.flag(2), 0);
        Checks.due("flag(5)", x.flag(5), 1);
    }

    @Sentence(of = "Promise 12", says = "Returns a word of the memory.")
    static void wordOfTheMemory() {
        PinEngines x = Checks.ran(2, "", "mov y not null;store y 6;");
        x.poke(7, 77);
        Checks.due("memory(6)", x.memory(6), -1);
        Checks.due("memory(7)", x.memory(7), 77);
        Checks.due("memory(8)", x.memory(8), 0);
    }

    @Sentence(of = "Promise 14", says = "Returns the pc of an engine.")
    static void pcOf() {
        PinEngines x = Checks.loaded("engine 1 start b;engine 2 start a;a:set x 1;set x 2;b:set x 3;jmp a;");
        int[][] addresses = {{2, 0}, {3, 1}, {0, 2}, {1, 3}, {2, 0}};
        for (int[] pair : addresses) {
            Checks.due("pc(1) at " + x.clock(), x.pc(1), pair[0]);
            Checks.due("pc(2) at " + x.clock(), x.pc(2), pair[1]);
            x.run(1);
        }
    }

    @Sentence(of = "Promise 15", says = "Returns a word of an engine.")
    static void wordsOfAnEngine() {
        PinEngines x = Checks.engine("", SHIFTING);
        x.put(0, -2);
        x.run(7);
        Checks.due("X", x.register(0, 0), 21);
        Checks.due("Y", x.register(0, 1), 3);
        Checks.due("I", x.register(0, 2), 0xC000000F);
        Checks.due("O", x.register(0, 3), 0x03FFFFFF);
    }

    @Sentence(of = "Promise 16", says = "Returns the fill count of an engine.")
    static void fillCount() {
        PinEngines x = Checks.engine("", SHIFTING);
        x.put(0, -2);
        int[] fills = {0, 0, 5, 0, 0, 0, 6, 8};
        for (int fill : fills) {
            Checks.due("fill at " + x.clock(), x.fill(0), fill);
            x.run(1);
        }
    }

    @Sentence(of = "Promise 17", says = "Returns the spent count of an engine.")
    static void spentCount() {
        PinEngines x = Checks.engine("", SHIFTING);
        x.put(0, -2);
        int[] counts = {32, 32, 32, 32, 32, 0, 6, 6};
        for (int spent : counts) {
            Checks.due("spent at " + x.clock(), x.spent(0), spent);
            x.run(1);
        }
    }

    @Sentence(of = "Promise 18", says = "Returns the delay ticks that an engine has left.")
    static void delayTicks() {
        PinEngines x = Checks.engine("clock 2 0", "push delay 2;push;");
        int[] ticks = {0, 2, 2, 1, 1, 0, 0, 0};
        for (int left : ticks) {
            Checks.due("delayLeft at " + x.clock(), x.delayLeft(0), left);
            x.run(1);
        }
    }

    @Sentence(of = "Promise 20", says = "Returns whether an engine is enabled.")
    static void enabledOrNot() {
        PinEngines x = Checks.loaded("engine 0 start a;engine 1 start a;a:push;");
        x.enable(1, false);
        Checks.due("isEnabled(0)", x.isEnabled(0), true);
        Checks.due("isEnabled(1)", x.isEnabled(1), false);
        x.enable(1, true);
        Checks.due("isEnabled(1)", x.isEnabled(1), true);
    }

    @Sentence(of = "Promise 21", says = "Returns the number of words in the input queue of an engine, or in its output queue.")
    static void sizesOfQueues() {
        PinEngines x = Checks.engine("", "push;push;pull;");
        x.put(0, 1);
        x.put(0, 2);
        x.put(0, 3);
        x.run(2);
        Checks.due("queueSize of the input", x.queueSize(0, false), 3);
        Checks.due("queueSize of the output", x.queueSize(0, true), 2);
        x.run(1);
        x.take(0);
        Checks.due("queueSize of the input", x.queueSize(0, false), 2);
        Checks.due("queueSize of the output", x.queueSize(0, true), 1);
    }

    @Sentence(of = "Promise 22", says = "Returns a word of a queue.")
    static void wordsOfQueues() {
        PinEngines x = Checks.ran(4, "", "mov isr not null;push;in null 1;push;");
        x.put(0, 5);
        x.put(0, 6);
        Checks.due("queued in the input", x.queued(0, false, 1), 6);
        Checks.due("queued in the output", x.queued(0, true, 0), 0xFFFFFFFFL);
        Checks.due("queued in the output", x.queued(0, true, 1), 0);
    }

    @Sentence(of = "Promise 22", says = "0 for the first one")
    static void firstWordOfAQueue() {
        PinEngines x = Checks.engine("", "pull;");
        x.put(0, 5);
        x.put(0, 6);
        Checks.due("queued", x.queued(0, false, 0), 5);
        x.run(1);
        Checks.due("queued", x.queued(0, false, 0), 6);
    }

    @Sentence(of = "Promise 23", says = "0 instructions done, 1 ticks at which its instruction could not be completed, "
            + "2 ticks spent with delays, 3 words appended to its output queue, 4 words that left its input queue "
            + "(by its instructions), 5 words lost by push with noblock")
    static void sixCounts() {
        PinEngines x = Checks.engine("autopush 8 autopull 8", "in null 8;in null 8;out null 8;push delay 2;push;"
                + "push noblock;push iffull noblock;pull;pull noblock;wait 1 pin 0;");
        x.put(0, 1);
        x.put(0, 2);
        x.run(20);
        int[] due = {9, 9, 2, 4, 2, 1};
        for (int what = 0; what < due.length; what++) {
            Checks.due("count " + what, x.count(0, what), due[what]);
        }
        x.take(0);
        x.put(0, 1);
        Checks.due("count 3 after take", x.count(0, 3), 4);
        Checks.due("count 4 after put", x.count(0, 4), 2);
    }

    @Sentence(of = "Promise 24", says = "Returns an earlier level of a pin.")
    static void earlierLevels() {
        PinEngines x = new PinEngines();
        int[] levels = {1, 1, 0, 1, 0, 0, 1};
        for (int level : levels) {
            x.drive(6, level);
            x.run(1);
        }
        x.drive(6, 0);
        for (int age = 0; age < levels.length; age++) {
            Checks.due("levelAt with the age " + age, x.levelAt(6, age), levels[levels.length - 1 - age]);
        }
        Checks.due("levelAt of another pin", x.levelAt(5, 0), 0);
    }

    @Sentence(of = "Promise 27", says = "Operation: appends a word to the input queue of an engine.")
    static void putAppends() {
        PinEngines x = Checks.loaded("engine 0 start a;engine 1 start a;a:push;");
        x.put(1, 4);
        x.put(1, -4);
        Checks.due("the input queue of engine 1", Checks.words(x, 1, false), "[4 4294967292]");
        Checks.due("the input queue of engine 0", Checks.words(x, 0, false), "[]");
        Checks.due("the output queue of engine 1", Checks.words(x, 1, true), "[]");
    }

    @Sentence(of = "Promise 28", says = "Operation: takes the first word from the output queue of an engine.")
    static void takeTakesTheFirst() {
        PinEngines x = Checks.ran(6, "", "mov isr not null;push;set x 3;in x 32;push;set x 4;");
        x.put(0, 9);
        Checks.due("take", x.take(0), 0xFFFFFFFFL);
        Checks.due("the output queue", Checks.words(x, 0, true), "[3]");
        Checks.due("take", x.take(0), 3);
        Checks.due("take", x.take(0), -2);
        Checks.due("the input queue", Checks.words(x, 0, false), "[9]");
    }

    @Sentence(of = "Promise 29", says = "Operation: enables or disables an engine.")
    static void enableAndDisable() {
        PinEngines x = Checks.engine("", "set x 1;set x 2;set x 3;");
        x.enable(0, false);
        Checks.due("run of a disabled engine", x.run(5), 0);
        Checks.due("pc", x.pc(0), 0);
        x.enable(0, true);
        Checks.due("run of an enabled engine", x.run(2), 2);
        Checks.due("X", x.register(0, 0), 2);
    }

    @Sentence(of = "Promise 31", says = "Operation: changes the outside level of a pin.")
    static void driveFromOutside() {
        PinEngines x = Checks.engine("inpins 8", "in pins 2;");
        x.drive(9, 1);
        x.run(1);
        Checks.due("the level that the engine reads", x.register(0, 2), 0x80000000);
        Checks.due("the output bit", x.latch(9), 0);
        Checks.due("the direction", x.isOutput(9), false);
    }

    @Sentence(of = "Promise 31", says = "Returns the level of the pin afterwards (its output bit if its direction is output).")
    static void levelAfterDrive() {
        PinEngines x = Checks.ran(2, "setpins 0 2", "set dirs 3;set pins 1;");
        Checks.due("drive of an output at 1", x.drive(0, 0), 1);
        Checks.due("drive of an output at 0", x.drive(1, 1), 0);
        Checks.due("drive of an input", x.drive(2, 1), 1);
        Checks.due("drive of an input", x.drive(2, 0), 0);
    }

    @Sentence(of = "Promise 32", says = "Operation: schedules an outside level.")
    static void scheduleALevel() {
        PinEngines x = new PinEngines();
        x.schedule(2, 7, 1);
        x.schedule(4, 7, 0);
        int[] levels = {0, 0, 1, 1, 0, 0};
        for (int level : levels) {
            x.run(1);
            Checks.due("level after cycle " + (x.clock() - 1), x.level(7), level);
        }
    }

    @Sentence(of = "Promise 33", says = "Operation: changes a word of the memory (without the port).")
    static void pokeWithoutThePort() {
        PinEngines x = Checks.engine("", "load y 2;");
        x.poke(2, 22);
        Checks.due("portOwner", x.portOwner(), -1);
        Checks.due("memory(2)", x.memory(2), 22);
        Checks.due("run", x.run(1), 1);
        Checks.due("the word that the engine loads", x.register(0, 1), 22);
    }

    @Sentence(of = "Promise 34", says = "Operation: simulates cycles.")
    static void cyclesOfRun() {
        PinEngines x = Checks.engine("", "set x 1;set x 2;set x 3;");
        x.run(1);
        Checks.due("X after a cycle", x.register(0, 0), 1);
        x.run(7);
        Checks.due("X after 8 cycles", x.register(0, 0), 2);
        Checks.due("clock", x.clock(), 8);
    }

    @Sentence(of = "Promise 34", says = "Returns the number of instructions that were done by all engines together;")
    static void instructionsOfAllEngines() {
        PinEngines x = Checks.loaded("engine 0 start a;engine 1 start b wrap b b;engine 2 start c;engine 3 start a clock 3 0;"
                + "a:set x 1;jmp a;b:set x 1 delay 1;c:pull;");
        Checks.due("run(7)", x.run(7), 7 + 4 + 0 + 3);
        x.put(2, 1);
        Checks.due("run(1)", x.run(1), 1 + 0 + 1 + 0);
    }

    @Sentence(of = "Promise 35", says = "Tells when a pin has a level, on a copy.")
    static void levelOnACopy() {
        PinEngines x = Checks.engine("setpins 2 1", "set dirs 1 delay 4;set pins 1 delay 6;set pins 0;");
        String before = Checks.brief(x);
        Checks.due("cyclesUntil the level is 1", x.cyclesUntil(2, 1, 50), 6);
        Checks.due("the state afterwards", Checks.brief(x), before);
        x.run(6);
        Checks.due("cyclesUntil the level is 0", x.cyclesUntil(2, 0, 50), 7);
    }

    @Sentence(of = "Promise 36", says = "Tells when an engine comes to an address, on a copy.")
    static void addressOnACopy() {
        PinEngines x = Checks.engine("", "set x 1 delay 4;set x 2 delay 2;jmp a;");
        String before = Checks.brief(x);
        Checks.due("cyclesTo 1", x.cyclesTo(0, 1, 50), 1);
        Checks.due("cyclesTo 2", x.cyclesTo(0, 2, 50), 6);
        Checks.due("the state afterwards", Checks.brief(x), before);
        x.run(1);
        Checks.due("cyclesTo 0", x.cyclesTo(0, 0, 50), 8);
    }

    @Sentence(of = "Promise 37", says = "Tells how many cycles are between the next two rising edges of a pin, on a copy.")
    static void periodOnACopy() {
        PinEngines x = Checks.engine("setpins 2 1", "set dirs 1;c:set pins 1 delay 4;set pins 0 delay 1;jmp c;");
        String before = Checks.brief(x);
        Checks.due("period", x.period(2, 50), 8);
        Checks.due("the state afterwards", Checks.brief(x), before);
        x.run(4);
        Checks.due("period, from the middle of a high level", x.period(2, 50), 8);
        Checks.due("period of another pin", x.period(3, 50), -1);
    }

    @Sentence(of = "Promise 38", says = "Returns these engines as a bit mask.")
    static void maskOfStuckEngines() {
        PinEngines x = Checks.loaded("engine 0 start a;engine 1 start b;engine 2 start a;engine 3 start b;a:pull;b:jmp b;");
        Checks.due("stuck", x.stuck(9), 0b0101);
        x.put(0, 1);
        Checks.due("stuck", x.stuck(9), 0b0100);
        Checks.due("the clock", x.clock(), 0);
    }

    @Sentence(of = "Promise 39", says = "Finds the clock setting for a tick every cycles / ticks cycles.")
    static void settingForTicks() {
        PinEngines x = new PinEngines();
        Checks.due("divider(7, 2)", x.divider(7, 2), 3 * 256 + 128);
        PinEngines y = Checks.engine("clock 3 128", "jmp a;");
        Checks.due("ticks in 700 cycles", y.run(700), 200);
    }

    @Sentence(of = "Promise 43", says = "Undoes the most recent operation.")
    static void undoTheMostRecent() {
        PinEngines x = new PinEngines();
        x.poke(0, 1);
        x.poke(0, 2);
        x.drive(0, 1);
        x.undo();
        Checks.due("the level", x.level(0), 0);
        Checks.due("memory(0)", x.memory(0), 2);
        x.undo();
        Checks.due("memory(0)", x.memory(0), 1);
        x.undo();
        Checks.due("memory(0)", x.memory(0), 0);
    }
}
