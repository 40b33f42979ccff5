/** The order within a cycle, the clock settings, the port, scheduled levels; promises 5 to 26. */
public final class CycleTest {
    public static void main(String[] args) {
        clockSettings();
        disabledCounters();
        port();
        portNeedsATick();
        scheduledLevels();
        pinState();
        levelsOfThePast();
        edgesAndHighTimes();
        flagsAndMemory();
        engineState();
        queues();
        counts();
        noSuchEngines();
        Checks.finish("CycleTest");
    }

    /** The cycles (0 to 31) in which an engine with this clock setting has a tick, as a mask. */
    private static int ticks(String setting) {
        PinEngines x = Checks.loaded("engine 2 start a " + setting + ";a:jmp a;");
        int ticks = 0;
        for (int cycle = 0; cycle < 32; cycle++) {
            ticks |= x.run(1) << cycle;
        }
        return ticks;
    }

    private static int mask(int... cycles) {
        int mask = 0;
        for (int cycle : cycles) {
            mask |= 1 << cycle;
        }
        return mask;
    }

    private static void clockSettings() {
        Checks.due("no setting", ticks(""), -1);
        Checks.due("clock 1 0", ticks("clock 1 0"), -1);
        Checks.due("clock 2 0", ticks("clock 2 0"), 0x55555555);
        Checks.due("clock 3 0", ticks("clock 3 0"), 0b01001001001001001001001001001001);
        Checks.due("clock 1 128", ticks("clock 1 128"), 0b01101101101101101101101101101101);
        Checks.due("clock 2 128", ticks("clock 2 128"),
                mask(0, 3, 5, 8, 10, 13, 15, 18, 20, 23, 25, 28, 30));
        Checks.due("clock 255 255", ticks("clock 255 255"), 1);
        PinEngines x = Checks.loaded("engine 0 start a clock 255 255;engine 1 start a clock 1 1;a:jmp a;");
        Checks.due("the ticks of 255 255 and of 1 1", x.run(256), 1 + 255);
        Checks.due("count of 255 255 before its second tick", x.count(0, 0), 1);
        x.run(1);
        Checks.due("count of 255 255 at its second tick", x.count(0, 0), 2);
        Checks.due("count of 1 1 after a skipped cycle", x.count(1, 0), 256);
        x.run(1);
        Checks.due("count of 1 1 goes on", x.count(1, 0), 257);
    }

    private static void disabledCounters() {
        PinEngines x = Checks.loaded("engine 0 start a clock 3 0;a:jmp a;");
        x.run(2);
        x.enable(0, false);
        Checks.due("run of a disabled engine", x.run(10), 0);
        Checks.due("its stalls and delays", x.count(0, 1) + x.count(0, 2), 0);
        x.enable(0, true);
        Checks.due("its counter stays", x.run(1), 0);
        Checks.due("its counter goes on", x.run(1), 1);
        x.run(1);
        x.restart(0);
        Checks.due("restart sets the counter", x.run(1), 1);
    }

    private static void port() {
        PinEngines x = Checks.loaded("engine 0 start a;engine 1 start a;engine 3 start a;a:store x 0;b:load y 0;");
        int[] owners = {0, 1, 3, 0, 1, 3};
        for (int i = 0; i < owners.length; i++) {
            Checks.due("one instruction a cycle", x.run(1), 1);
            Checks.due("portOwner after cycle " + i, x.portOwner(), owners[i]);
            for (int e = 0; e < 4; e++) {
                if (e != 2) {
                    Checks.due("stall of engine " + e, x.stall(e), e == owners[i] ? 0 : 4);
                }
            }
        }
        Checks.due("count of stalls", x.count(0, 1), 4);
        // Each gets the next word: engine 1 stores 5 before engine 0, which stands after it, loads.
        PinEngines y = Checks.loaded("engine 0 start a;engine 1 start b;"
                + "a:push;load x 0;c:jmp c;b:set x 5;store x 0;d:jmp d;");
        y.run(2);
        Checks.due("the first owner is engine 0", y.portOwner(), 0);
        Checks.due("it reads the word before", y.register(0, 0), 0);
        y.run(1);
        Checks.due("then engine 1", y.portOwner(), 1);
        Checks.due("memory", y.memory(0), 5);
        y.run(5);
        Checks.due("the owner stays", y.portOwner(), 1);
    }

    private static void portNeedsATick() {
        PinEngines x = Checks.loaded("engine 0 start a clock 2 0;engine 1 start b;a:push;load x 0;jmp a;b:load x 1;");
        x.run(1);
        Checks.due("engine 1 has the port", x.portOwner(), 1);
        x.run(1);
        Checks.due("without a tick no port", x.portOwner(), 1);
        Checks.due("stall of engine 1", x.stall(1), 0);
        x.run(1);
        Checks.due("with a tick the port goes on", x.portOwner(), 0);
        Checks.due("stall of engine 1", x.stall(1), 4);
        PinEngines y = Checks.loaded("engine 0 start a;engine 1 start b;a:push delay 3;load x 0;push;b:load x 1;");
        y.run(4);
        Checks.due("with delay ticks left no port", y.portOwner(), 1);
        y.run(1);
        Checks.due("without them the port", y.portOwner(), 0);
        PinEngines z = Checks.loaded("engine 0 start a;engine 1 start a;a:load x 0;");
        z.enable(0, false);
        z.run(3);
        Checks.due("no port for a disabled engine", z.portOwner(), 1);
        Checks.due("count", z.count(1, 0), 3);
    }

    private static void scheduledLevels() {
        PinEngines x = Checks.loaded("engine 0 start a;a:wait 1 pin 4;push;");
        Checks.due("schedule", x.schedule(2, 4, 0), 1);
        Checks.due("schedule", x.schedule(2, 4, 1), 2);
        Checks.due("schedule", x.schedule(3, 4, 1), 3);
        Checks.due("schedule", x.schedule(3, 4, 0), 4);
        Checks.due("schedule", x.schedule(0, 5, 1), 5);
        Checks.due("run", x.run(1), 0);
        Checks.due("level", x.level(5), 1);
        x.run(1);
        Checks.due("level before the cycle", x.level(4), 0);
        Checks.due("it is read in its cycle", x.run(1), 1);
        Checks.due("the last one of a cycle prevails", x.level(4), 1);
        x.run(1);
        Checks.due("the last one of a cycle prevails", x.level(4), 0);
        Checks.due("all are applied", x.schedule(4, 0, 1), 1);
        x.drive(0, 0);
        x.run(1);
        Checks.due("a scheduled level comes after a drive", x.level(0), 1);
    }

    private static void pinState() {
        PinEngines x = Checks.loaded("level 1 1;engine 0 start a setpins 0 4;a:set dirs 5;set pins 12;push;");
        Checks.due("level of an input", x.level(1), 1);
        Checks.due("latch of an input", x.latch(1), 0);
        Checks.due("isOutput at first", x.isOutput(0), false);
        x.run(2);
        Checks.due("isOutput", x.isOutput(2), true);
        Checks.due("isOutput", x.isOutput(3), false);
        Checks.due("latch of an input", x.latch(3), 1);
        Checks.due("level of an input with a latch", x.level(3), 0);
        Checks.due("level of an output", x.level(2), 1);
        Checks.due("drive of an output", x.drive(2, 0), 1);
        Checks.due("drive of an input", x.drive(1, 0), 0);
        int[] wrong = {-1, 16, Integer.MIN_VALUE, Integer.MAX_VALUE};
        for (int pin : wrong) {
            Checks.noSuchElement("level(" + pin + ")", () -> x.level(pin));
            Checks.noSuchElement("latch(" + pin + ")", () -> x.latch(pin));
            Checks.noSuchElement("isOutput(" + pin + ")", () -> x.isOutput(pin));
            Checks.noSuchElement("levelAt(" + pin + ", 0)", () -> x.levelAt(pin, 0));
            Checks.noSuchElement("edges(" + pin + ")", () -> x.edges(pin));
            Checks.noSuchElement("highTime(" + pin + ")", () -> x.highTime(pin));
            Checks.noSuchElement("memory(" + pin + ")", () -> x.memory(pin));
        }
        Checks.due("level(15)", x.level(15), 0);
    }

    private static void levelsOfThePast() {
        PinEngines x = Checks.loaded("level 15 1;engine 0 start a setpins 2 1;a:set dirs 1;set pins 1 delay 4;set pins 0;"
                + "b:jmp b;");
        Checks.due("levelAt before the first cycle", x.levelAt(15, 0), PinEngines.NONE);
        x.run(8);
        int[] due = {0, 0, 1, 1, 1, 1, 1, 0};
        for (int age = 0; age < 8; age++) {
            Checks.due("levelAt(2, " + age + ")", x.levelAt(2, age), due[age]);
            Checks.due("levelAt(15, " + age + ")", x.levelAt(15, age), 1);
        }
        Checks.due("levelAt before the first cycle", x.levelAt(2, 8), PinEngines.NONE);
        Checks.due("levelAt before the first cycle", x.levelAt(2, 63), PinEngines.NONE);
        x.drive(15, 0);
        Checks.due("levelAt after a drive", x.levelAt(15, 0), 1);
        x.run(60);
        Checks.due("levelAt(2, 63)", x.levelAt(2, 63), 1);
        Checks.due("levelAt(2, 62)", x.levelAt(2, 62), 1);
        Checks.due("levelAt(2, 61)", x.levelAt(2, 61), 0);
        Checks.due("levelAt(15, 59)", x.levelAt(15, 59), 0);
        Checks.due("levelAt(15, 60)", x.levelAt(15, 60), 1);
        x.run(3);
        Checks.due("levelAt(2, 63)", x.levelAt(2, 63), 0);
        Checks.noSuchElement("levelAt(2, 64)", () -> x.levelAt(2, 64));
        Checks.noSuchElement("levelAt(2, -1)", () -> x.levelAt(2, -1));
        Checks.noSuchElement("levelAt(2, MAX_VALUE)", () -> x.levelAt(2, Integer.MAX_VALUE));
        Checks.noSuchElement("levelAt(2, MIN_VALUE)", () -> x.levelAt(2, Integer.MIN_VALUE));
    }

    private static void edgesAndHighTimes() {
        PinEngines x = Checks.loaded("level 3 1;level 4 1;engine 0 start a setpins 0 1;a:set dirs 1;set pins 1;set pins 0;"
                + "jmp a;");
        Checks.due("highTime at first", x.highTime(3), 0);
        x.drive(4, 0);
        x.run(1);
        Checks.due("edges of cycle 0 are told from the loaded levels", x.edges(4), 1);
        Checks.due("edges of a level that stays", x.edges(3), 0);
        Checks.due("highTime of a level that stays", x.highTime(3), 1);
        Checks.due("highTime of a level that fell before", x.highTime(4), 0);
        x.drive(3, 0);
        x.drive(3, 1);
        x.run(1);
        Checks.due("edges between cycles do not count", x.edges(3), 0);
        x.run(9);
        // Pin 0 is 1 at the ends of the cycles 1, 5 and 9.
        Checks.due("edges", x.edges(0), 6);
        Checks.due("highTime", x.highTime(0), 3);
        Checks.due("highTime of a level that stays", x.highTime(3), 11);
        x.drive(3, 0);
        Checks.due("highTime before the cycle", x.highTime(3), 11);
        x.run(2);
        Checks.due("highTime after it", x.highTime(3), 11);
        Checks.due("edges", x.edges(3), 1);
        x.schedule(13, 3, 1);
        x.run(1);
        Checks.due("highTime of a scheduled level", x.highTime(3), 12);
        Checks.due("edges of a scheduled level", x.edges(3), 2);
        PinEngines many = new PinEngines();
        for (int cycle = 0; cycle < 8; cycle++) {
            for (int pin = 0; pin < 16; pin++) {
                many.drive(pin, pin % 4 == 0 ? 1 : pin % 4 == 1 ? cycle & 1 : pin % 4 == 2 ? cycle >> 1 & 1 : 0);
            }
            many.run(1);
        }
        int[] edges = {1, 7, 3, 0};
        int[] high = {8, 4, 4, 0};
        for (int pin = 0; pin < 16; pin++) {
            Checks.due("edges of pin " + pin, many.edges(pin), edges[pin % 4]);
            Checks.due("highTime of pin " + pin, many.highTime(pin), high[pin % 4]);
        }
        Checks.due("highTime of pin 4", x.highTime(4), 0);
        Checks.due("edges of pin 4", x.edges(4), 1);
    }

    private static void flagsAndMemory() {
        PinEngines x = Checks.loaded("engine 0 start a;a:raise 0;raise 7;clear 0;push;");
        x.run(2);
        Checks.due("flags", Checks.flags(x), 0x81);
        x.run(1);
        Checks.due("flags", Checks.flags(x), 0x80);
        Checks.noSuchElement("flag(-1)", () -> x.flag(-1));
        Checks.noSuchElement("flag(8)", () -> x.flag(8));
        Checks.noSuchElement("flag(MIN_VALUE)", () -> x.flag(Integer.MIN_VALUE));
        Checks.noSuchElement("flag(MAX_VALUE)", () -> x.flag(Integer.MAX_VALUE));
        Checks.due("memory(0)", x.memory(0), 0);
        Checks.due("poke", x.poke(15, -5), 0);
        Checks.due("memory(15)", x.memory(15), -5);
        Checks.due("poke", x.poke(15, 6), -5);
        Checks.due("poke does not need the port", x.portOwner(), PinEngines.NONE);
    }

    private static void engineState() {
        PinEngines x = Checks.loaded("engine 1 start b;engine 3 start a;a:set x 3;b:set y 4 delay 6;mov isr y;mov osr y;"
                + "in x 3;out null 7;pull;");
        Checks.due("engines", x.engines(), 10);
        Checks.due("pc at first", x.pc(1), 1);
        Checks.due("pc at first", x.pc(3), 0);
        Checks.due("spent at first", x.spent(1), 32);
        Checks.due("fill at first", x.fill(1), 0);
        Checks.due("isEnabled at first", x.isEnabled(1), true);
        x.run(1);
        Checks.due("X", x.register(3, 0), 3);
        Checks.due("Y", x.register(1, 1), 4);
        Checks.due("delayLeft", x.delayLeft(1), 6);
        x.run(9);
        Checks.due("I", x.register(1, 2), 0);
        Checks.due("fill", x.fill(1), 3);
        Checks.due("spent", x.spent(1), 0);
        Checks.due("O", x.register(1, 3), 4);
        x.run(3);
        Checks.due("spent", x.spent(1), 7);
        Checks.due("stall", x.stall(1), 2);
        Checks.due("clock", x.clock(), 13);
        Checks.noSuchElement("register(1, 4)", () -> x.register(1, 4));
        Checks.noSuchElement("register(1, -1)", () -> x.register(1, -1));
        Checks.noSuchElement("register(1, MIN_VALUE)", () -> x.register(1, Integer.MIN_VALUE));
        Checks.noSuchElement("count(1, 6)", () -> x.count(1, 6));
        Checks.noSuchElement("count(1, -1)", () -> x.count(1, -1));
        Checks.noSuchElement("count(1, MAX_VALUE)", () -> x.count(1, Integer.MAX_VALUE));
    }

    private static void queues() {
        PinEngines x = Checks.loaded("engine 0 start a;a:mov isr not null;push;set x 1;in x 32;push;b:jmp b;");
        x.put(0, -1);
        x.put(0, 7);
        Checks.due("queueSize", x.queueSize(0, false), 2);
        Checks.due("queueSize", x.queueSize(0, true), 0);
        Checks.due("queued", x.queued(0, false, 0), 4294967295L);
        Checks.due("queued", x.queued(0, false, 1), 7);
        Checks.due("queued", x.queued(0, false, 2), PinEngines.NONE);
        Checks.due("queued", x.queued(0, false, 9), PinEngines.NONE);
        Checks.due("queued", x.queued(0, false, Integer.MAX_VALUE), PinEngines.NONE);
        Checks.noSuchElement("queued(0, false, -1)", () -> x.queued(0, false, -1));
        Checks.noSuchElement("queued(0, true, MIN_VALUE)", () -> x.queued(0, true, Integer.MIN_VALUE));
        x.run(6);
        Checks.due("queueSize", x.queueSize(0, true), 2);
        Checks.due("queued", x.queued(0, true, 0), 4294967295L);
        Checks.due("queued", x.queued(0, true, 1), 1);
        Checks.due("take", x.take(0), 4294967295L);
        Checks.due("queued moves up", x.queued(0, true, 0), 1);
        Checks.due("queued", x.queued(0, true, 1), PinEngines.NONE);
    }

    private static void counts() {
        PinEngines x = Checks.loaded("engine 0 start a;a:pull delay 2;in x 1;push noblock;jmp a;");
        for (int i = 0; i < 4; i++) {
            x.put(0, i);
        }
        x.put(0, 4);
        x.run(24);
        x.put(0, 5);
        x.put(0, 6);
        x.run(14);
        // Six rounds of pull, two delay ticks, in, push, jmp; then it stalls for two ticks.
        Checks.due("count of instructions", x.count(0, 0), 24);
        Checks.due("count of stalls", x.count(0, 1), 2);
        Checks.due("count of delays", x.count(0, 2), 12);
        Checks.due("count of pushed words", x.count(0, 3), 4);
        Checks.due("count of pulled words", x.count(0, 4), 6);
        Checks.due("count of lost words", x.count(0, 5), 2);
        x.take(0);
        x.put(0, 1);
        Checks.due("take and put do not count", x.count(0, 3) * 10 + x.count(0, 4), 46);
        x.restart(0);
        Checks.due("restart keeps the counts", x.count(0, 0), 24);
        Checks.due("restart does not count the words that are dropped", x.count(0, 4), 6);
    }

    private static void noSuchEngines() {
        PinEngines x = Checks.loaded("engine 1 start a;a:push;");
        int[] wrong = {-1, 0, 2, 3, 4, 32, Integer.MIN_VALUE, Integer.MAX_VALUE};
        for (int e : wrong) {
            Checks.noSuchElement("pc(" + e + ")", () -> x.pc(e));
            Checks.noSuchElement("register(" + e + ", 0)", () -> x.register(e, 0));
            Checks.noSuchElement("fill(" + e + ")", () -> x.fill(e));
            Checks.noSuchElement("spent(" + e + ")", () -> x.spent(e));
            Checks.noSuchElement("delayLeft(" + e + ")", () -> x.delayLeft(e));
            Checks.noSuchElement("stall(" + e + ")", () -> x.stall(e));
            Checks.noSuchElement("isEnabled(" + e + ")", () -> x.isEnabled(e));
            Checks.noSuchElement("queueSize(" + e + ", false)", () -> x.queueSize(e, false));
            Checks.noSuchElement("queued(" + e + ", true, 0)", () -> x.queued(e, true, 0));
            Checks.noSuchElement("count(" + e + ", 0)", () -> x.count(e, 0));
            Checks.noSuchElement("put(" + e + ", 0)", () -> x.put(e, 0));
            Checks.noSuchElement("take(" + e + ")", () -> x.take(e));
            Checks.noSuchElement("enable(" + e + ", true)", () -> x.enable(e, true));
            Checks.noSuchElement("restart(" + e + ")", () -> x.restart(e));
            Checks.noSuchElement("cyclesTo(" + e + ", 0, 0)", () -> x.cyclesTo(e, 0, 0));
        }
        Checks.due("undoCount", x.undoCount(), 0);
    }
}
