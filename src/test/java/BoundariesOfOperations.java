/** Promises 27 to 34 and 42 to 45: the operations, what is refused, undoing and the snapshot. */
final class BoundariesOfOperations {
    private BoundariesOfOperations() {
    }

    /** The engines 0 and 3 exist; engine 0 has a word in its output queue. */
    private static PinEngines twoEngines() {
        PinEngines x = Checks.loaded("level 4 1;engine 3 start b;engine 0 start a;a:push delay 3;pull;b:set x 5;wait 1 pin 9;");
        x.put(3, 11);
        x.run(3);
        return x;
    }

    /** An operation is refused for -1, 4 and more, and for numbers that no text defined; then it is not recorded. */
    private static void onlyExistingEngines(Range.Numbered call) {
        Range.ofElements(twoEngines(), 0, 3, call);
        PinEngines x = twoEngines();
        Checks.noSuchElement("engine 1, which the text does not define", () -> call.make(x, 1));
        Checks.noSuchElement("engine 2, which the text does not define", () -> call.make(x, 2));
        Checks.due("undoCount after it", x.undoCount(), 2);
        Checks.noSuchElement("engine 0 of a new object", () -> call.make(new PinEngines(), 0));
    }

    @Sentence(of = "Promise 27", says = "Throws `NoSuchElementException` if there is no such engine")
    static void putToNoEngine() {
        onlyExistingEngines((x, engine) -> x.put(engine, 1));
        PinEngines full = Checks.engine("joinout", "push;");
        Checks.noSuchElement("put(1, 0)", () -> full.put(1, 0));
    }

    @Sentence(of = "Promise 27", says = "Returns the number of words in it afterwards; -2 if it is full.")
    static void putIntoAFullQueue() {
        putUntilFull("", 4);
        putUntilFull("joinin", 8);
        putUntilFull("joinout", 0);
    }

    private static void putUntilFull(String setting, int room) {
        PinEngines x = Checks.engine(setting, "pull;");
        for (int size = 1; size <= room; size++) {
            Checks.due("put of word " + size + " " + setting, x.put(0, -size), size);
        }
        String before = Checks.brief(x);
        Checks.due("put into the full queue", x.put(0, 99), -2);
        Checks.due("put into the full queue again", x.put(0, 98), -2);
        Checks.due("the state after it", Checks.brief(x), before);
        Checks.due("undoCount", x.undoCount(), room);
        if (room > 0) {
            x.run(1);
            Checks.due("put after a pull", x.put(0, 7), room);
            Checks.due("put into the full queue", x.put(0, 8), -2);
            Checks.due("the last word", x.queued(0, false, room - 1), 7);
        }
    }

    @Sentence(of = "Promise 28", says = "Throws `NoSuchElementException` if there is no such engine")
    static void takeFromNoEngine() {
        onlyExistingEngines((x, engine) -> x.take(engine));
    }

    @Sentence(of = "Promise 28", says = "Returns the word, unsigned; -2 if it is empty.")
    static void takeFromAnEmptyQueue() {
        PinEngines x = Checks.engine("", "pull;mov isr osr;push;");
        String before = Checks.brief(x);
        Checks.due("take at first", x.take(0), -2);
        Checks.due("the state after it", Checks.brief(x), before);
        int[] words = {-1, -2, Integer.MIN_VALUE, Integer.MAX_VALUE};
        long[] due = {4294967295L, 4294967294L, 2147483648L, 2147483647L};
        for (int word : words) {
            x.put(0, word);
        }
        x.run(12);
        for (int i = 0; i < 4; i++) {
            Checks.due("undoCount", x.undoCount(), 5 + i);
            Checks.due("take of " + words[i], x.take(0), due[i]);
        }
        Checks.due("take after the last word", x.take(0), -2);
        Checks.due("undoCount", x.undoCount(), 9);
        PinEngines none = Checks.engine("joinin", "push;");
        none.run(2);
        Checks.due("take from a queue for 0 words", none.take(0), -2);
    }

    @Sentence(of = "Promise 28", says = "-2 if it is empty.")
    static void takeAllOfAJoinedQueue() {
        PinEngines x = Checks.engine("joinout", "set x 1;mov isr x;b:push;in x 32;jmp b;");
        x.run(40);
        for (int i = 0; i < 8; i++) {
            Checks.due("take " + i, x.take(0), 1);
        }
        Checks.due("take from the emptied queue", x.take(0), -2);
    }

    @Sentence(of = "Promise 29", says = "Throws `NoSuchElementException` if there is no such engine")
    static void enableNoEngine() {
        onlyExistingEngines((x, engine) -> x.enable(engine, false));
        onlyExistingEngines((x, engine) -> x.enable(engine, true));
    }

    @Sentence(of = "Promise 29", says = "A disabled one has no ticks, and its counter stays.")
    static void disabledCounterStays() {
        for (int before = 1; before <= 3; before++) {
            PinEngines x = Checks.engine("clock 3 0", "push noblock delay 1;");
            x.run(before);
            x.enable(0, false);
            String state = Checks.brief(x);
            Checks.due("run of a disabled engine", x.run(7), 0);
            x.undo();
            Checks.due("the state before the run", Checks.brief(x), state);
            x.run(7);
            x.enable(0, true);
            Checks.due("ticks so far", x.count(0, 0) + x.count(0, 2), 1);
            x.run(3 - before);
            Checks.due("ticks before the period is over", x.count(0, 0) + x.count(0, 2), 1);
            x.run(1);
            Checks.due("ticks after it", x.count(0, 0) + x.count(0, 2), 2);
        }
    }

    @Sentence(of = "Promise 29", says = "Returns whether it was enabled before.")
    static void enableTwice() {
        PinEngines x = Checks.engine("", "push;");
        Checks.due("enable(0, true) at first", x.enable(0, true), true);
        Checks.due("enable(0, false)", x.enable(0, false), true);
        Checks.due("enable(0, false) again", x.enable(0, false), false);
        Checks.due("enable(0, true)", x.enable(0, true), false);
        Checks.due("enable(0, true) again", x.enable(0, true), true);
        Checks.due("all are recorded", x.undoCount(), 5);
    }

    @Sentence(of = "Promise 30", says = "Throws `NoSuchElementException` if there is no such engine")
    static void restartNoEngine() {
        onlyExistingEngines((x, engine) -> x.restart(engine));
    }

    @Sentence(of = "Promise 30", says = "Operation: makes an engine, its queues and its counter as at first; "
            + "whether it is enabled, and its counts, stay.")
    static void restartOfFullQueues() {
        PinEngines x = Checks.engine("clock 2 128", "push;push;push;push;push;");
        for (int i = 0; i < 4; i++) {
            x.put(0, i);
        }
        x.run(15);
        x.enable(0, false);
        Checks.due("stall before", x.stall(0), 3);
        Checks.due("restart", x.restart(0), 4);
        Checks.due("the queues", Checks.words(x, 0, false) + Checks.words(x, 0, true), "[][]");
        Checks.due("stall, pc and fill", x.stall(0) + x.pc(0) + x.fill(0), 0);
        Checks.due("isEnabled stays", x.isEnabled(0), false);
        Checks.due("words appended stay", x.count(0, 3), 4);
        Checks.due("stalled ticks stay", x.count(0, 1), 2);
        for (int size = 1; size <= 4; size++) {
            Checks.due("put", x.put(0, size), size);
        }
        Checks.due("put into the full queue", x.put(0, 5), -2);
        x.enable(0, true);
        // Period 640: ticks in the cycles 0, 3, 5, 8, 10 after the counter is as at first.
        int[] ticks = {1, 0, 0, 1, 0, 1, 0, 0, 1};
        for (int cycle = 0; cycle < ticks.length; cycle++) {
            Checks.due("ticks in cycle " + cycle + " after restart", x.run(1), ticks[cycle]);
        }
    }

    @Sentence(of = "Promise 30", says = "Operation: makes an engine, its queues and its counter as at first;")
    static void restartOfAllWords() {
        PinEngines x = Checks.engine("", "push;mov x not null;mov y not null;mov osr not null;in x 9;out null 5 delay 31;pull;");
        x.run(6);
        Checks.due("the words", x.register(0, 0) & x.register(0, 1), -1);
        Checks.due("fill, spent and delayLeft", x.fill(0) * 10000 + x.spent(0) * 100 + x.delayLeft(0), 90531);
        Checks.due("restart", x.restart(0), 6);
        for (int which = 0; which < 4; which++) {
            Checks.due("register " + which, x.register(0, which), 0);
        }
        Checks.due("fill, spent and delayLeft", x.fill(0) * 10000 + x.spent(0) * 100 + x.delayLeft(0), 3200);
        Checks.due("the instructions done stay", x.count(0, 0), 6);
    }

    @Sentence(of = "Promise 30", says = "Returns the pc that it had.")
    static void restartAtTheEnds() {
        PinEngines x = Checks.loaded("engine 0 start z;" + "push noblock;".repeat(31) + "z:set x 1;");
        Checks.due("restart at the start", x.restart(0), 31);
        x.run(1);
        Checks.due("restart at 0", x.restart(0), 0);
        Checks.due("pc", x.pc(0), 31);
        Checks.due("X", x.register(0, 0), 0);
    }

    @Sentence(of = "Promise 31", says = "Throws `NoSuchElementException` if there is no such pin (checked first)")
    static void driveNoPin() {
        Range.ofElements(twoEngines(), 0, 15, (x, pin) -> x.drive(pin, 1));
        PinEngines x = twoEngines();
        Checks.noSuchElement("drive(16, 2)", () -> x.drive(16, 2));
        Checks.noSuchElement("drive(-1, -1)", () -> x.drive(-1, -1));
        Checks.due("undoCount", x.undoCount(), 2);
    }

    @Sentence(of = "Promise 31", says = "Throws `IllegalArgumentException` if level is out of range")
    static void driveToNoLevel() {
        Range.ofArguments(twoEngines(), 0, 1, (x, level) -> x.drive(0, level));
        Range.ofArguments(twoEngines(), 0, 1, (x, level) -> x.drive(15, level));
    }

    @Sentence(of = "Promise 31", says = "0 or 1")
    static void driveToBothLevels() {
        PinEngines x = new PinEngines();
        Checks.due("drive(15, 0)", x.drive(15, 0), 0);
        Checks.due("drive(15, 1)", x.drive(15, 1), 1);
        Checks.due("drive(15, 1)", x.drive(15, 1), 1);
        Checks.due("drive(0, 1)", x.drive(0, 1), 1);
        Checks.due("the levels", Checks.levels(x), 0x8001);
        Checks.due("drive(15, 0)", x.drive(15, 0), 0);
        Checks.due("the levels", Checks.levels(x), 1);
        PinEngines output = Checks.ran(2, "setpins 15 1", "set dirs 1;set pins 1;b:jmp b;");
        Checks.due("drive(15, 0) of an output", output.drive(15, 0), 1);
    }

    @Sentence(of = "Promise 32", says = "Throws `NoSuchElementException` if there is no such pin (checked first)")
    static void scheduleNoPin() {
        Range.ofElements(twoEngines(), 0, 15, (x, pin) -> x.schedule(3, pin, 1));
        PinEngines x = twoEngines();
        Checks.noSuchElement("schedule(2, 16, 0)", () -> x.schedule(2, 16, 0));
        Checks.noSuchElement("schedule(3, -1, 2)", () -> x.schedule(3, -1, 2));
        Checks.noSuchElement("schedule(1000001, 16, 2)", () -> x.schedule(1000001, 16, 2));
        Checks.due("schedule after them", x.schedule(3, 0, 1), 1);
    }

    @Sentence(of = "Promise 32", says = "Throws `IllegalArgumentException` if cycle or level is out of range")
    static void scheduleNoCycle() {
        Range.ofArguments(twoEngines(), 3, 1000000, (x, cycle) -> x.schedule(cycle, 9, 1));
        Range.ofArguments(new PinEngines(), 0, 1000000, (x, cycle) -> x.schedule(cycle, 9, 1));
        PinEngines late = new PinEngines();
        late.run(1000);
        Range.ofArguments(late, 1000, 1000000, (x, cycle) -> x.schedule(cycle, 9, 1));
        Checks.due("schedule after them", late.schedule(1000, 9, 1), 3);
    }

    @Sentence(of = "Promise 32", says = "Throws `IllegalArgumentException` if cycle or level is out of range")
    static void scheduleNoLevel() {
        Range.ofArguments(twoEngines(), 0, 1, (x, level) -> x.schedule(3, 0, level));
        Range.ofArguments(twoEngines(), 0, 1, (x, level) -> x.schedule(1000000, 15, level));
        PinEngines x = twoEngines();
        Checks.illegalArgument("schedule(2, 0, 2)", () -> x.schedule(2, 0, 2));
        Checks.due("schedule after it", x.schedule(3, 0, 1), 1);
    }

    @Sentence(of = "Promise 32", says = "- `level`: 0 or 1")
    static void scheduleBothLevels() {
        PinEngines x = Checks.loaded("level 0 1;level 1 1;");
        Checks.illegalArgument("schedule(0, 0, -1)", () -> x.schedule(0, 0, -1));
        Checks.due("schedule(0, 0, 0)", x.schedule(0, 0, 0), 1);
        Checks.illegalArgument("schedule(0, 15, 2)", () -> x.schedule(0, 15, 2));
        Checks.due("schedule(0, 15, 1)", x.schedule(0, 15, 1), 2);
        x.run(1);
        Checks.due("the levels", Checks.levels(x), 0x8002);
    }

    @Sentence(of = "Promise 32", says = "the clock to 1000000")
    static void scheduleNowAndAtTheEnd() {
        PinEngines x = new PinEngines();
        x.run(10);
        Checks.due("schedule(10, 0, 1)", x.schedule(10, 0, 1), 1);
        Checks.due("schedule(1000000, 0, 0)", x.schedule(1000000, 0, 0), 2);
        Checks.illegalArgument("schedule(9, 0, 1)", () -> x.schedule(9, 0, 1));
        Checks.illegalArgument("schedule(1000001, 0, 1)", () -> x.schedule(1000001, 0, 1));
        x.run(1);
        Checks.due("the level of the cycle 10", x.level(0), 1);
        Checks.illegalArgument("schedule(10, 0, 1) after it", () -> x.schedule(10, 0, 1));
        Checks.due("schedule(11, 0, 0)", x.schedule(11, 0, 0), 2);
    }

    @Sentence(of = "Promise 32", says = "Returns the number of scheduled levels that are not applied yet; "
            + "-2 if there are 32 already.")
    static void scheduleThe33rd() {
        PinEngines x = new PinEngines();
        for (int i = 1; i <= 32; i++) {
            Checks.due("schedule of level " + i, x.schedule(i, 15, 1), i);
        }
        String before = Checks.brief(x);
        Checks.due("schedule of the 33rd", x.schedule(0, 3, 1), -2);
        Checks.due("schedule of the 33rd again", x.schedule(1000000, 3, 1), -2);
        Checks.illegalArgument("schedule of a wrong level", () -> x.schedule(0, 3, 2));
        Checks.illegalArgument("schedule of a wrong cycle", () -> x.schedule(-1, 3, 1));
        Checks.noSuchElement("schedule of a wrong pin", () -> x.schedule(0, 16, 1));
        Checks.due("the state after it", Checks.brief(x), before);
        x.run(1);
        Checks.due("the refused level is not applied", x.level(3), 0);
        Checks.due("schedule before cycle 1", x.schedule(1, 3, 1), -2);
        x.run(1);
        Checks.due("schedule after cycle 1", x.schedule(2, 3, 1), 32);
        Checks.due("schedule of the 33rd", x.schedule(2, 4, 1), -2);
        x.undo();
        Checks.due("schedule after undo", x.schedule(2, 4, 1), 32);
        x.run(31);
        Checks.due("all are applied", x.schedule(1000, 0, 1), 1);
        Checks.due("the levels", Checks.levels(x), 0x8010);
    }

    @Sentence(of = "Promise 33", says = "Throws `NoSuchElementException` if address is not 0 to 15")
    static void pokeOutside() {
        Range.ofElements(twoEngines(), 0, 15, (x, address) -> x.poke(address, 7));
        Range.ofElements(new PinEngines(), 0, 15, (x, address) -> x.poke(address, 7));
    }

    @Sentence(of = "Promise 33", says = "Returns the word before.")
    static void pokeExtremeWords() {
        PinEngines x = new PinEngines();
        int before = 0;
        for (int word : new int[] {Integer.MIN_VALUE, Integer.MAX_VALUE, -1, -2, 0}) {
            Checks.due("poke(0, " + word + ")", x.poke(0, word), before);
            Checks.due("poke(15, " + word + ")", x.poke(15, word), before);
            Checks.due("memory(0)", x.memory(0), word);
            Checks.due("memory(15)", x.memory(15), word);
            before = word;
        }
        Checks.due("memory(1)", x.memory(1), 0);
        Checks.due("portOwner", x.portOwner(), PinEngines.NONE);
    }

    @Sentence(of = "Promise 34", says = "Throws `IllegalArgumentException` if cycles is out of range")
    static void runOutOfRange() {
        Range.ofArguments(twoEngines(), 0, 1000, (x, cycles) -> x.run(cycles));
        Range.ofArguments(new PinEngines(), 0, 1000, (x, cycles) -> x.run(cycles));
    }

    @Sentence(of = "Promise 34", says = "0 to 1000")
    static void runOf0And1000() {
        PinEngines x = Checks.loaded("engine 0 start a;engine 3 start a;a:jmp a;");
        Checks.due("run(0)", x.run(0), 0);
        Checks.due("clock", x.clock(), 0);
        Checks.due("run(1000)", x.run(1000), 2000);
        Checks.due("clock", x.clock(), 1000);
        Checks.due("run(1)", x.run(1), 2);
        Checks.due("run(999)", x.run(999), 1998);
        Checks.due("clock", x.clock(), 2000);
        Checks.due("undoCount", x.undoCount(), 4);
    }

    /** This alone needs more than 512 calls: 512 runs of 1000 cycles do not come to the clock 1000000. */
    @Sentence(of = "Promise 34", says = "-4 if the clock would exceed 1000000.")
    static void runBeyondTheLastClock() {
        PinEngines x = new PinEngines();
        x.poke(3, 3);
        for (int i = 0; i < 1000; i++) {
            Checks.due("run to " + 1000 * (i + 1), x.run(i == 999 ? 999 : 1000), 0);
        }
        Checks.due("clock", x.clock(), 999999);
        Checks.due("run(2)", x.run(2), -4);
        Checks.due("run(1000)", x.run(1000), -4);
        Checks.illegalArgument("run(1001)", () -> x.run(1001));
        Checks.due("clock", x.clock(), 999999);
        Checks.due("schedule(1000000, 0, 1)", x.schedule(1000000, 0, 1), 1);
        Checks.due("schedule(999999, 1, 1)", x.schedule(999999, 1, 1), 2);
        Checks.due("run(1)", x.run(1), 0);
        Checks.due("clock", x.clock(), 1000000);
        Checks.due("the levels", Checks.levels(x), 2);
        Checks.due("run(1) at the end", x.run(1), -4);
        Checks.due("run(0) at the end", x.run(0), 0);
        Checks.due("undo of run(0)", x.undo(), 9);
        Checks.due("undo of run(1)", x.undo(), 8);
        Checks.due("clock", x.clock(), 999999);
    }

    @Sentence(of = "Operations", says = "Every successful call of an operation is recorded, even if it changes nothing.")
    static void callsThatChangeNothing() {
        PinEngines x = Checks.loaded("level 3 1;engine 0 start a;a:pull;");
        String before = Checks.brief(x);
        x.enable(0, true);
        x.restart(0);
        x.drive(3, 1);
        x.poke(0, 0);
        x.run(0);
        Checks.due("undoCount", x.undoCount(), 5);
        for (int left = 4; left >= 0; left--) {
            Checks.due("undo", x.undo(), left);
        }
        Checks.due("undo of nothing", x.undo(), PinEngines.NONE);
        Checks.due("the state", Checks.brief(x), before);
    }

    @Sentence(of = "Operations", says = "put, take, enable, restart, drive, schedule, poke and run are operations.")
    static void eightOperations() {
        PinEngines x = Checks.engine("", "push;pull;");
        x.run(1);
        x.put(0, 1);
        x.take(0);
        x.enable(0, false);
        x.restart(0);
        x.drive(0, 1);
        x.schedule(9, 0, 1);
        x.poke(0, 1);
        Checks.due("undoCount", x.undoCount(), 8);
        x.cyclesUntil(0, 1, 5);
        x.cyclesTo(0, 1, 5);
        x.period(0, 5);
        x.stuck(5);
        x.divider(1, 1);
        x.format(0);
        x.formattedByte(0);
        x.saveSnapshot();
        Checks.query(x, "many 0=0");
        Checks.load(x, "!");
        Checks.due("undoCount after other calls", x.undoCount(), 8);
    }

    @Sentence(of = "Operations", says = "A call that returns a negative error code or throws an exception changes nothing.")
    static void refusedCallsAreNotRecorded() {
        PinEngines x = Checks.loaded("engine 0 start a;a:pull;");
        for (int i = 1; i <= 9; i++) {
            x.poke(0, i);
        }
        refuseEach(x);
        Checks.due("undoCount", x.undoCount(), 9);
        x.poke(0, 10);
        refuseEach(x);
        Checks.due("undoCount of 10", x.undoCount(), 10);
        for (int i = 9; i >= 0; i--) {
            Checks.due("undo", x.undo(), i);
            Checks.due("memory(0)", x.memory(0), i);
        }
        refuseEach(x);
        Checks.due("undo of nothing", x.undo(), PinEngines.NONE);
    }

    private static void refuseEach(PinEngines x) {
        Checks.due("take", x.take(0), -2);
        Checks.noSuchElement("put", () -> x.put(1, 1));
        Checks.noSuchElement("take", () -> x.take(4));
        Checks.noSuchElement("enable", () -> x.enable(-1, false));
        Checks.noSuchElement("restart", () -> x.restart(3));
        Checks.noSuchElement("drive", () -> x.drive(16, 0));
        Checks.illegalArgument("drive", () -> x.drive(15, 2));
        Checks.noSuchElement("schedule", () -> x.schedule(0, 16, 0));
        Checks.illegalArgument("schedule", () -> x.schedule(-1, 0, 0));
        Checks.illegalArgument("schedule", () -> x.schedule(0, 0, -1));
        Checks.noSuchElement("poke", () -> x.poke(16, 0));
        Checks.illegalArgument("run", () -> x.run(1001));
    }

    @Sentence(of = "Operations", says = "The 10 most recent operations can be undone, the most recent one first.")
    static void tenOperations() {
        for (int operations : new int[] {0, 1, 9, 10, 11, 20, 25}) {
            PinEngines x = new PinEngines();
            for (int i = 1; i <= operations; i++) {
                x.poke(0, i);
            }
            int undone = Math.min(operations, 10);
            Checks.due("undoCount of " + operations, x.undoCount(), undone);
            for (int i = 1; i <= undone; i++) {
                Checks.due("undo " + i + " of " + operations, x.undo(), undone - i);
                Checks.due("memory(0)", x.memory(0), operations - i);
            }
            Checks.due("undo of nothing", x.undo(), PinEngines.NONE);
            Checks.due("memory(0)", x.memory(0), operations - undone);
        }
    }

    @Sentence(of = "Operations", says = "Undoing restores everything that the operation changed.")
    static void undoOfEachOperation() {
        for (int operation = 0; operation < 9; operation++) {
            PinEngines x = Checks.loaded("level 0 1;engine 0 start a clock 1 99 sidepins 3 2 autopush 5 autopull 5 outpins 8 3;"
                    + "engine 3 start b setpins 8 5;a:out pins 3 side 3;in x 4;in x 4 delay 1;store isr 3;raise 1;"
                    + "b:set dirs 31;set pins 5;load x 3;signal 4;");
            x.put(0, 0x12345);
            x.put(0, 0x54321);
            x.schedule(12, 2, 1);
            x.run(9);
            String before = Checks.brief(x);
            operate(x, operation);
            Checks.due("undo of operation " + operation, x.undo(), 4);
            Checks.due("the state after it", Checks.brief(x), before);
        }
    }

    private static void operate(PinEngines x, int operation) {
        switch (operation) {
            case 0: x.put(0, 5); break;
            case 1: x.take(0); break;
            case 2: x.enable(3, false); break;
            case 3: x.restart(0); break;
            case 4: x.drive(0, 0); break;
            case 5: x.schedule(9, 0, 0); break;
            case 6: x.poke(3, 123); break;
            case 7: x.run(1); break;
            default: x.run(1000); break;
        }
    }

    @Sentence(of = "Operations", says = "Undoing restores everything that the operation changed.")
    static void undoOfRunsThatChangeEverything() {
        for (int cycles = 1; cycles <= 17; cycles++) {
            PinEngines x = Checks.loaded("engine 0 start a setpins 0 5;engine 3 start b setpins 12 3;"
                    + "a:mov x not x;mov y reverse x;in x 3;out y 5;raise 2;set dirs 21;set pins 10;store x 4;b:push;"
                    + "pull noblock;clear 2;set dirs 10;set pins 21;load y 3;mov osr not y;raise 5;clear 5;jmp a;");
            x.put(0, 77);
            x.put(3, 78);
            x.run(7 * cycles);
            String before = Checks.brief(x);
            x.run(cycles);
            Checks.due("undo", x.undo(), 3);
            Checks.due("the state after undo of run(" + cycles + ")", Checks.brief(x), before);
        }
    }

    @Sentence(of = "Operations", says = "Undoing restores everything that the operation changed.")
    static void undoOfWordsInFullQueues() {
        for (String setting : new String[] {"", "joinin", "joinout"}) {
            PinEngines x = Checks.engine(setting, "pull noblock;in osr 32;push noblock;");
            for (int i = 1; i <= 8; i++) {
                x.put(0, i);
            }
            x.run(10);
            x.put(0, 9);
            x.put(0, 10);
            x.saveSnapshot();
            x.restoreSnapshot();
            String before = Checks.brief(x);
            x.take(0);
            x.restart(0);
            x.put(0, 11);
            x.put(0, 12);
            x.put(0, 13);
            x.run(20);
            x.take(0);
            for (int left = x.undoCount() - 1; left >= 0; left--) {
                Checks.due("undo", x.undo(), left);
            }
            Checks.due("the state after undo of all " + setting, Checks.brief(x), before);
        }
    }

    @Sentence(of = "Operations", says = "Undoing restores everything that the operation changed.")
    static void undoOfWhatOnlyLaterCyclesTell() {
        String due = levelsAndTicks(counting());
        for (int operation = 0; operation < 9; operation++) {
            PinEngines x = counting();
            operate(x, operation);
            x.undo();
            Checks.due("the cycles after undo of operation " + operation, levelsAndTicks(x), due);
        }
    }

    /** Its counters and its scheduled levels show in later cycles alone. */
    private static PinEngines counting() {
        PinEngines x = Checks.loaded("engine 0 start a clock 3 7;engine 3 start a clock 2 1;a:push;");
        x.schedule(20, 5, 1);
        x.schedule(20, 0, 1);
        x.schedule(19, 0, 1);
        x.run(8);
        return x;
    }

    private static String levelsAndTicks(PinEngines x) {
        StringBuilder told = new StringBuilder();
        for (int cycle = 0; cycle < 30; cycle++) {
            told.append(x.run(1)).append(x.level(0)).append(x.level(5)).append(' ');
        }
        return told.toString();
    }

    @Sentence(of = "Promise 42", says = "Returns the number of operations that can be undone.")
    static void undoCounts() {
        PinEngines x = new PinEngines();
        Checks.due("undoCount of a new object", x.undoCount(), 0);
        for (int i = 1; i <= 12; i++) {
            x.drive(0, 1);
            Checks.due("undoCount after " + i, x.undoCount(), Math.min(i, 10));
        }
        Checks.load(x, "");
        Checks.due("undoCount after load", x.undoCount(), 0);
        x.drive(0, 1);
        x.saveSnapshot();
        Checks.due("undoCount after saveSnapshot", x.undoCount(), 1);
        x.restoreSnapshot();
        Checks.due("undoCount after restoreSnapshot", x.undoCount(), 0);
    }

    @Sentence(of = "Promise 43", says = "Returns the number of operations that can still be undone; "
            + "NONE if there was nothing to undo.")
    static void undoOfNothing() {
        PinEngines x = Checks.loaded("level 3 1;engine 0 start a;a:push;");
        String before = Checks.brief(x);
        Checks.due("undo at first", x.undo(), PinEngines.NONE);
        Checks.due("undo again", x.undo(), PinEngines.NONE);
        Checks.due("the state after it", Checks.brief(x), before);
        x.run(1);
        Checks.due("undo of the only one", x.undo(), 0);
        Checks.due("undo after it", x.undo(), PinEngines.NONE);
        x.run(1);
        x.run(1);
        Checks.due("undo of two", x.undo(), 1);
        Checks.due("clock", x.clock(), 1);
    }

    @Sentence(of = "Promise 43", says = "NONE if there was nothing to undo.")
    static void undoOfNothingAfterTheEleventh() {
        PinEngines x = new PinEngines();
        for (int i = 0; i < 11; i++) {
            x.run(1);
        }
        for (int left = 9; left >= 0; left--) {
            Checks.due("undo", x.undo(), left);
        }
        Checks.due("the eleventh undo", x.undo(), PinEngines.NONE);
        Checks.due("clock", x.clock(), 1);
    }

    @Sentence(of = "Promise 44", says = "Saves a snapshot of everything that undoing restores. It replaces an earlier snapshot.")
    static void secondSnapshot() {
        PinEngines x = Checks.loaded("engine 0 start a clock 2 9;a:push noblock;");
        x.schedule(9, 3, 1);
        x.saveSnapshot();
        x.run(5);
        String second = Checks.brief(x);
        x.saveSnapshot();
        x.run(40);
        x.poke(1, 1);
        x.restoreSnapshot();
        x.run(0);
        x.undo();
        Checks.due("clock", x.clock(), 5);
        x.run(5);
        Checks.due("the scheduled level", x.level(3), 1);
        x.restoreSnapshot();
        x.schedule(10, 0, 0);
        x.schedule(10, 0, 0);
        Checks.due("the state but for undoCount", Checks.brief(x), second);
    }

    @Sentence(of = "Promise 45", says = "Returns true; false if there is no snapshot (nothing changes).")
    static void restoreWithoutSnapshot() {
        PinEngines x = Checks.loaded("engine 0 start a;a:push;");
        x.run(3);
        x.poke(5, 5);
        String before = Checks.brief(x);
        Checks.due("restoreSnapshot", x.restoreSnapshot(), false);
        Checks.due("the state after it", Checks.brief(x), before);
        Checks.due("undo after it", x.undo(), 1);
        x.saveSnapshot();
        Checks.due("restoreSnapshot of one", x.restoreSnapshot(), true);
        Checks.load(x, "!");
        Checks.due("restoreSnapshot after an error of load", x.restoreSnapshot(), true);
        Checks.load(x, "");
        Checks.due("restoreSnapshot after load", x.restoreSnapshot(), false);
        Checks.due("restoreSnapshot of a new object", new PinEngines().restoreSnapshot(), false);
    }

    @Sentence(of = "Promise 45", says = "Restores the snapshot and clears the undo history. The snapshot is kept.")
    static void restoreTwice() {
        PinEngines x = Checks.loaded("level 3 1;engine 0 start a;a:push;");
        x.saveSnapshot();
        String saved = Checks.brief(x);
        for (int times = 0; times < 2; times++) {
            for (int i = 0; i < 11; i++) {
                x.run(1);
            }
            Checks.due("restoreSnapshot", x.restoreSnapshot(), true);
            Checks.due("undoCount", x.undoCount(), 0);
            Checks.due("undo", x.undo(), PinEngines.NONE);
        }
        Checks.due("the state", Checks.brief(x), saved);
    }
}
